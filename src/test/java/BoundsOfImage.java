/** Part V of the terms, the constants, and promises 13 and 47 to 49. */
final class BoundsOfImage {
  private static final int ALL = Offices.ALL;

  private BoundsOfImage() {}

  static void look() {
    seeds();
    draws();
    byHand();
    renewed();
    years();
    oneStep();
    agesPromised();
    image();
    notTheTape();
    back();
    imagePromised();
    backPromised();
    about();
    constants();
  }

  private static void seeds() {
    Sentences.terms("AGES by a SEED: X is SEED (0 .. 9999) * 2 + 431");
    MarkOffice x = new MarkOffice();
    // Without MARKS one age is one draw.
    x.ages(0, 1);
    Due.due("X of SEED 0", x.is(1), Offices.after(431));
    x.ages(9999, 1);
    Due.due("X of SEED 9999", x.is(1), Offices.after(20429));
    Due.due("ages(-1, 1)", x.ages(-1, 1), -1);
    Due.due("ages(10000, 1)", x.ages(10000, 1), -1);
    Due.due("X is as it was", x.is(1), Offices.after(20429));
    Sentences.terms("; n times (1 .. 40): ");
    int drawn = 431;
    for (int n = 1; n <= 40; n++) {
      drawn = Offices.after(drawn);
      x.ages(0, n);
      Due.due("X behind " + n, x.is(1), drawn);
    }
    Due.due("ages(0, 0)", x.ages(0, 0), -1);
    Due.due("ages(0, 41)", x.ages(0, 41), -1);
    Due.due("X is as it was", x.is(1), drawn);
  }

  private static void draws() {
    Sentences.terms("x is X, then X is anew (as in a draw)");
    // 431 is 5 of 6, a YEAR, which draws behind it: 13497, stroke 17, and 29024.
    MarkOffice x = Offices.under("wears 10;", ALL);
    x.ages(0, 1);
    Due.due("X", x.is(1), Offices.after(29024));
    Due.due("of(0, 0)", x.of(0, 0), ALL & ~(1 << 17));
    Sentences.terms("x mod 6: 0, 1 to MARK x / 6 mod 8 stroke x mod 20 is ADDED;");
    // 433: 1 of 6, MARK 0 (72), stroke 13.
    MarkOffice y = Offices.of(0, 0);
    y.ages(1, 1);
    Due.due("of(0, 0)", y.of(0, 0), 1 << 13);
    Offices.line(y, 0, 0, 0, 0, 13);
    for (int of6 = 0; of6 < 3; of6++) {
      for (int mark = 0; mark < 8; mark += 7) {
        second(of6, mark);
      }
    }
  }

  /** The first SEED whose first draw does nothing and whose second one is so of 6, of this MARK. */
  private static int seedOf(int of6, int mark) {
    for (int seed = 0; seed <= 9999; seed++) {
      int first = seed * 2 + 431;
      int second = Offices.after(first);
      if (first % 6 == 3 && first % 4 == 3 && second % 6 == of6 && second / 6 % 8 == mark) {
        return seed;
      }
    }
    throw new IllegalStateException("no such seed");
  }

  private static int drawnBy(int seed) {
    return Offices.after(seed * 2 + 431);
  }

  private static void second(int of6, int mark) {
    int seed = seedOf(of6, mark);
    int stroke = 1 << drawnBy(seed) % 20;
    MarkOffice none = Offices.of(0, 0, 0, 0, 0, 0, 0, 0);
    none.ages(seed, 2);
    Due.due("of(" + mark + ", 0), " + of6 + " of 6", none.of(mark, 0), of6 < 2 ? stroke : 0);
    MarkOffice all = Offices.of(ALL, ALL, ALL, ALL, ALL, ALL, ALL, ALL);
    all.ages(seed, 2);
    Due.due("of(" + mark + ", 0), " + of6 + " of 6", all.of(mark, 0), of6 == 2 ? ALL & ~stroke : ALL);
    Due.due("is(3)", all.is(3), of6 == 2 ? 1 << mark : 0);
    Due.due("YEAR", all.is(0), 0);
  }

  private static void byHand() {
    Sentences.terms("2 it is RUBBED;");
    int seed = seedOf(2, 0);
    MarkOffice x = Offices.of(ALL);
    x.ages(seed, 2);
    Offices.line(x, 0, 0, 0, 1, drawnBy(seed) % 20);
    Sentences.terms("(each if it can be; else nothing)");
    x.ages(seed, 2);
    Due.due("book(-1, 0), it hasn't it any more", x.book(-1, 0), 1);
    MarkOffice y = Offices.of(1 << 13);
    Due.due("ages(1, 1), it has it", y.ages(1, 1), 0);
    Due.due("book(-1, 0)", y.book(-1, 0), 0);
    Due.due("is(3)", y.is(3), 0);
    for (int of6 = 0; of6 < 3; of6++) {
      MarkOffice few = Offices.of(ALL, 0);
      few.ages(seedOf(of6, 2), 2);
      Due.due("book(-1, 0), no such MARK", few.book(-1, 0), 0);
    }
    MarkOffice none = Offices.of();
    none.ages(1, 1);
    Due.due("book(-1, 0) without marks", none.book(-1, 0), 0);
  }

  private static void renewed() {
    Sentences.terms("3 that MARK is RENEWED, if x mod 4 is 1");
    // 489: 3 of 6, MARK 1 (81), 1 of 4.
    MarkOffice x = Offices.of(0, 7);
    x.ages(29, 1);
    Due.due("book(-1, 0), none is other", x.book(-1, 0), 0);
    x.rub(1, 0);
    x.add(0, 0);
    x.ages(29, 1);
    Due.due("of(1, 0)", x.of(1, 0), 7);
    Due.due("of(0, 0), the other one", x.of(0, 0), 1);
    Offices.line(x, 2, 0, 1, 2, -1);
    // 435 and 531: 3 of 6, MARK 0 (72, 88), 3 of 4.
    x.ages(2, 1);
    x.ages(50, 1);
    Due.due("of(0, 0), 3 of 4", x.of(0, 0), 1);
    Due.due("book(-1, 0)", x.book(-1, 0), 3);
    MarkOffice y = Offices.of(0);
    y.ages(29, 1);
    Due.due("book(-1, 0), no such MARK", y.book(-1, 0), 0);
  }

  private static void years() {
    Sentences.terms("4, 5 a YEAR (if it can pass)");
    Due.due("ages(0, 1), 5 of 6", Offices.of(0).ages(0, 1), 1);
    for (int mark = 0; mark < 8; mark++) {
      Due.due("ages of 4 of 6", Offices.of(0).ages(seedOf(4, mark), 2), 1);
      Due.due("ages of 5 of 6", Offices.of(0).ages(seedOf(5, mark), 2), 1);
      Due.due("ages of 3 of 6", Offices.of(0).ages(seedOf(3, mark), 2), 0);
      Due.due("ages of 0 of 6", Offices.of(0).ages(seedOf(0, mark), 2), 0);
    }
    MarkOffice x = Offices.under("wears 10;fee 1;", ALL);
    Offices.pass(x, 9998);
    int fund = x.is(2);
    Due.due("ages(0, 1), it can", x.ages(0, 1), 9999);
    Due.due("FUND", x.is(2), fund + 1);
    Due.due("ages(0, 1), it can't", x.ages(0, 1), 9999);
    Due.due("X, the draw of the age alone", x.is(1), Offices.after(431));
    Due.due("FUND", x.is(2), fund + 1);
  }

  private static void oneStep() {
    Sentences.terms("It is one STEP: YEAR");
    MarkOffice x = Offices.under("wears 10;", ALL, 0);
    int[] ahead = Offices.seen(x);
    Due.due("ages(5, 40)", x.ages(5, 40), x.is(0));
    Due.due("many YEARS passed", x.is(0) > 3, true);
    Due.due("much was written down", x.book(-1, 0) > 3, true);
    Due.due("about(3)", x.about(3), 1);
    Due.due("undo()", x.undo(), 0);
    Offices.same("taken back", Offices.seen(x), ahead);
    // So it is when nothing can be.
    MarkOffice y = Offices.of();
    y.ages(1, 1);
    Due.due("about(3), nothing was done", y.about(3), 1);
    Due.due("undo()", y.undo(), 0);
    Due.due("X", y.is(1), 431);
  }

  private static void agesPromised() {
    Sentences.promise(13, "AGES: YEAR");
    MarkOffice x = Offices.of(0);
    x.year(7);
    Due.due("ages(1, 1), no YEAR", x.ages(1, 1), 7);
    Due.due("ages(0, 1), a YEAR", x.ages(0, 1), 8);
    Due.due("ages(9999, 40)", x.ages(9999, 40), x.is(0));
    Due.due("ages(0, 40)", x.ages(0, 40), x.is(0));
    Sentences.promise(13, "NONE for others");
    int[] seen = Offices.seen(x);
    int[][] others = {{-1, 1}, {10000, 1}, {0, 0}, {0, 41}, {0, -1}, {Offices.LOWEST, 1},
        {Offices.HIGHEST, 1}, {0, Offices.LOWEST}, {0, Offices.HIGHEST}, {-1, 0}};
    for (int[] other : others) {
      Due.due("ages(" + other[0] + ", " + other[1] + ")", x.ages(other[0], other[1]), -1);
    }
    Offices.same("nothing is done", Offices.seen(x), seen);
  }

  /** Everything that an office can have is other. */
  private static void change(MarkOffice x) {
    x.mark(9);
    Due.told(x, "fee 2;wears 1;");
    x.by(1);
    x.renew(0);
    x.rub(0, 0);
    x.add(1, 9);
    x.ages(77, 30);
    x.year(20);
    x.witness(-1, true);
    x.witness(6, true);
    x.said(-1, 0, 0);
    x.said(1, 2, 9);
    x.said(1, 2, 8);
    x.end(0);
  }

  private static void image() {
    Sentences.terms("AN IMAGE: all as it is");
    MarkOffice x = Offices.busy();
    int[] seen = Offices.seen(x);
    int then = x.foretold(30, 2);
    Due.due("image()", x.image(), 2);
    Offices.same("an image changes nothing", Offices.seen(x), seen);
    change(x);
    x.back();
    Offices.sameImage("back", Offices.seen(x), seen);
    Due.due("foretold(30, 2)", x.foretold(30, 2), then);
    // The STEPS and what they bring, too.
    for (int left = 3; left >= 0; left--) {
      Due.due("undo()", x.undo(), left);
    }
    Due.due("is(3)", x.is(3), 0);
    Due.due("X", x.is(1), 431);
    Due.due("book(-1, 0)", x.book(-1, 0), 0);
  }

  private static void notTheTape() {
    Sentences.terms(", but the tape and the latest FAULT");
    MarkOffice x = new MarkOffice();
    Due.put(x, "fee 5;");
    x.image();
    Due.due("about(6), the image leaves it", x.about(6), 6);
    Due.told(x, "year 0;");
    Due.put(x, "fee 66;");
    x.back();
    Due.due("about(6)", x.about(6), 7);
    Due.due("fault(0)", x.fault(0), 2);
    Due.due("fault(1)", x.fault(1), 5);
    x.mark(0);
    Due.due("text()", x.text(), 0);
    x.by(0);
    Due.due("of(0, 7)", x.of(0, 7), 66);
    x.back();
    Due.due("fault(0), without", x.fault(0), 0);
    Due.due("fault(1), without", x.fault(1), -1);
  }

  private static void back() {
    Sentences.terms("BACK: all is so again");
    // Fewer MARKS, TEXTS, STEPS than are now; and more than are now.
    MarkOffice x = Offices.busy();
    x.back();
    Due.due("about(0), fewer", x.about(0), 0);
    Due.due("about(1), fewer", x.about(1), 0);
    Due.due("about(3), fewer", x.about(3), 0);
    MarkOffice y = Offices.busy();
    y.image();
    while (y.undo() > 0) {
      Due.due("is(0)", y.is(0) >= 0, true);
    }
    y.witness(-1, true);
    y.said(-1, 0, 0);
    y.by(-1);
    y.back();
    Due.due("about(3), more", y.about(3), 4);
    Due.due("about(4), more", y.about(4), 2);
    Due.due("about(5), more", y.about(5), 1);
    Due.due("about(2)", y.about(2), 0);
    // TEXTS told since are none; others come in their stead.
    MarkOffice z = Offices.under("fee 5;", 0);
    z.image();
    Due.due("text()", Due.told(z, "fee 6;"), 1);
    z.back();
    Due.due("by(1)", z.by(1), false);
    Due.due("text()", Due.told(z, "fee 7;"), 1);
    Due.due("of(0, 7), by the first", z.of(0, 7), 5);
    z.by(1);
    Due.due("of(0, 7), by the new one", z.of(0, 7), 7);
    nothingOfOldTexts();
    // All thirty STEPS.
    MarkOffice full = Offices.of(0, 0);
    full.year(40);
    full.image();
    full.year(45);
    full.back();
    for (int left = 29; left >= 0; left--) {
      full.undo();
      Due.due("YEAR", full.is(0), 10 + left);
    }
    Due.due("undo()", full.undo(), -1);
  }

  private static void nothingOfOldTexts() {
    MarkOffice x = Offices.of(7);
    Due.due("text()", Due.told(x, "fee 50;wears 9;year 1;add 9 to 0;"), 0);
    x.back();
    x.mark(7);
    Due.due("text()", Due.told(x, "year 2;"), 0);
    x.by(0);
    Due.due("of(0, 7)", x.of(0, 7), 3);
    Due.due("wears(0, 0)", x.wears(0, 0), 3);
    Due.due("played(0)", x.played(0), -1);
    Due.due("YEAR", x.is(0), 2);
    Due.due("about(3)", x.about(3), 2);
  }

  private static void imagePromised() {
    Sentences.promise(47, "THE IMAGE is as all is now: YEAR");
    MarkOffice x = Offices.of(1);
    Due.due("image()", x.image(), 0);
    x.year(5);
    Due.due("image(), another in its stead", x.image(), 5);
    x.year(1);
    Due.due("back()", x.back(), 5);
    Offices.pass(x, 9999);
    Due.due("image(), 9999", x.image(), 9999);
  }

  private static void backPromised() {
    Sentences.promise(48, "BACK to THE IMAGE");
    MarkOffice x = Offices.of(1);
    Due.due("back(), of a new object", x.back(), 0);
    Due.due("about(0)", x.about(0), 0);
    x.mark(3);
    x.year(2);
    x.image();
    x.rub(0, 0);
    Due.due("back()", x.back(), 2);
    Due.due("of(0, 0)", x.of(0, 0), 3);
    Sentences.promise(48, "(it stays)");
    for (int i = 0; i < 3; i++) {
      x.add(0, 9 + i);
      x.year(1);
      Due.due("back()", x.back(), 2);
      Due.due("of(0, 0)", x.of(0, 0), 3);
      Due.due("about(3)", x.about(3), 2);
    }
    Sentences.promise(48, ": YEAR");
    Due.due("undo()", x.undo(), 1);
    Due.due("YEAR", x.is(0), 1);
    Due.due("back()", x.back(), 2);
    Due.due("YEAR", x.is(0), 2);
  }

  private static void about() {
    Sentences.promise(49, "0 MARKS, 1 TEXTS, 2 THE TEXT (NONE), 3 STEPS that can be taken back, "
        + "4 strokes a WITNESS told, 5 SAID, 6 bytes of the tape");
    int[] at = {0, 0, -1, 0, 0, 0, 0};
    MarkOffice x = new MarkOffice();
    for (int what = 0; what < 7; what++) {
      Due.due("about(" + what + ") of a new object", x.about(what), at[what]);
    }
    MarkOffice y = Offices.of(1, 2, 3, 4, 5, 6, 7, 8);
    for (int i = 0; i < 4; i++) {
      Due.told(y, "");
    }
    y.by(3);
    y.year(60);
    for (int i = 0; i < 20; i++) {
      y.witness(i, false);
      y.said(0, 0, 0);
    }
    for (int i = 0; i < 16; i++) {
      y.feed(0, 0, 0, 0, 0);
    }
    int[] most = {8, 4, 3, 30, 20, 8, 300};
    for (int what = 0; what < 7; what++) {
      Due.due("about(" + what + "), the most", y.about(what), most[what]);
    }
    y.by(-1);
    Due.due("about(2), none", y.about(2), -1);
    Sentences.promise(49, "-2 for others");
    for (int what : new int[] {-1, 7, Offices.LOWEST, Offices.HIGHEST}) {
      Due.due("about(" + what + ")", y.about(what), -2);
    }
  }

  private static void constants() {
    Sentences.terms("The constants: `NONE = -1`: None.");
    Due.due("NONE", MarkOffice.NONE, -1);
  }
}
