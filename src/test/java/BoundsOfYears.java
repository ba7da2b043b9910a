/** Part I of the terms: points, strokes, marks, the fund, years, draws, the book, steps. */
final class BoundsOfYears {
  private static final int ALL = Offices.ALL;

  private BoundsOfYears() {}

  static void look() {
    points();
    strokes();
    strokesAcross();
    marks();
    fund();
    lastYear();
    atFirst();
    book();
    byHand();
    fees();
    heldFund();
    draws();
    wornOff();
    yearsOver();
    writtenDown();
    steps();
    thirty();
    takenBack();
    marksSince();
  }

  private static void drawn(int a, int b, int stroke) {
    MarkOffice x = new MarkOffice();
    Due.due("drawn(" + a + ", " + b + ")", x.drawn(a, b), stroke);
    Due.due("drawn(" + b + ", " + a + ")", x.drawn(b, a), stroke);
  }

  private static void points() {
    Sentences.terms("POINTS 0 .. 8 in three rows of three");
    drawn(0, 1, 0);
    drawn(7, 8, 5);
    drawn(-1, 0, -1);
    drawn(8, 9, -1);
    // The end of a row and the beginning of the next one are no neighbours.
    drawn(2, 3, -1);
    drawn(5, 6, -1);
  }

  private static void strokes() {
    Sentences.terms("STROKES 0 .. 19");
    MarkOffice x = Offices.of(0);
    Due.due("add(0, -1)", x.add(0, -1), false);
    Due.due("add(0, 20)", x.add(0, 20), false);
    Due.due("add(0, 0)", x.add(0, 0), true);
    Due.due("add(0, 19)", x.add(0, 19), true);
    Sentences.terms("(of sets of them bits)");
    Due.due("of(0, 0)", x.of(0, 0), 1 | 1 << 19);
    Due.due("turned(all, 0)", x.turned(ALL, 0), ALL);
    Due.due("turned(a bit more, 0)", x.turned(ALL + 1, 0), -1);
    Sentences.terms("2 times a row, and c: from column c to c + 1 of a row (0 .. 5)");
    drawn(0, 1, 0);
    drawn(1, 2, 1);
    drawn(3, 4, 2);
    drawn(4, 5, 3);
    drawn(6, 7, 4);
    drawn(7, 8, 5);
    Sentences.terms("6 and 3 times r, and a column: from row r to r + 1 (6 .. 11)");
    for (int point = 0; point < 6; point++) {
      drawn(point, point + 3, 6 + point);
    }
    drawn(0, 6, -1);
  }

  private static void strokesAcross() {
    Sentences.terms("12 and 2 times r, and c: from row r, column c to row r + 1, column c + 1 (12 .. 15)");
    drawn(0, 4, 12);
    drawn(1, 5, 13);
    drawn(3, 7, 14);
    drawn(4, 8, 15);
    drawn(2, 6, -1);
    drawn(0, 8, -1);
    Sentences.terms("16 and 2 times r, and c: from row r, column c + 1 to row r + 1, column c (16 .. 19)");
    drawn(1, 3, 16);
    drawn(2, 4, 17);
    drawn(4, 6, 18);
    drawn(5, 7, 19);
    drawn(2, 6, -1);
  }

  private static void marks() {
    Sentences.terms("MARKS 0 .. 7");
    MarkOffice x = new MarkOffice();
    for (int mark = 0; mark < 8; mark++) {
      Due.due("mark(1)", x.mark(1), mark);
    }
    Due.due("mark(1), a ninth", x.mark(1), -1);
    Due.due("of(7, 0)", x.of(7, 0), 1);
    Due.due("of(8, 0)", x.of(8, 0), -1);
    Sentences.terms("(told one by one");
    MarkOffice y = new MarkOffice();
    Due.due("of(0, 0), not told yet", y.of(0, 0), -1);
    y.mark(5);
    Due.due("of(0, 0)", y.of(0, 0), 5);
    Due.due("of(1, 0), not told yet", y.of(1, 0), -1);
    Sentences.terms("of any strokes, none, too");
    Due.due("mark(0)", y.mark(0), 1);
    Due.due("mark(all)", y.mark(ALL), 2);
    Due.due("of(1, 1)", y.of(1, 1), 0);
    Due.due("of(2, 1)", y.of(2, 1), ALL);
    Sentences.terms("as registered, and now)");
    y.add(1, 19);
    Due.due("of(1, 0), now", y.of(1, 0), 1 << 19);
    Due.due("of(1, 1), as registered", y.of(1, 1), 0);
  }

  /** Eight marks that owe 99 each a year, in the YEAR 1262. */
  private static MarkOffice rich() {
    MarkOffice x = Offices.under("fee 99;wears 0;", 1, 1, 1, 1, 1, 1, 1, 1);
    Due.due("text()", Due.told(x, "fee if number<5 then 99 else 0 end;wears 0;"), 1);
    Due.due("text()", Due.told(x, "fee 1-number;wears 0;"), 2);
    Offices.pass(x, 1262);
    Due.due("FUND", x.is(2), 999504);
    return x;
  }

  private static void fund() {
    Sentences.terms("FUND 0 .. 999999");
    MarkOffice x = rich();
    // Five marks of 99 make it 999999 and no less.
    x.by(1);
    x.year(1);
    Due.due("FUND", x.is(2), 999999);
    Sentences.terms("no more)");
    x.by(2);
    x.year(1);
    Due.due("FUND, one more would be 1000000", x.is(2), 999999);
    x.by(0);
    x.year(60);
    Due.due("FUND", x.is(2), 999999);
  }

  private static void lastYear() {
    Sentences.terms("YEAR 0 .. 9999");
    MarkOffice x = new MarkOffice();
    Due.due("is(0)", x.is(0), 0);
    Offices.pass(x, 9998);
    Due.due("year(1)", x.year(1), 0);
    Due.due("is(0)", x.is(0), 9999);
    Due.due("year(1)", x.year(1), -1);
    Due.due("is(0)", x.is(0), 9999);
  }

  private static void atFirst() {
    MarkOffice x = new MarkOffice();
    Sentences.terms("(at first 0;");
    Due.due("FUND", x.is(2), 0);
    Sentences.terms("(at first 0)");
    Due.due("YEAR", x.is(0), 0);
    Sentences.terms("X: at first 431");
    Due.due("X", x.is(1), 431);
  }

  private static void book() {
    Sentences.terms("BOOK (the latest 25)");
    MarkOffice x = Offices.of(0, 0);
    for (int stroke = 0; stroke < 20; stroke++) {
      x.add(0, stroke);
    }
    for (int stroke = 0; stroke < 4; stroke++) {
      x.add(1, stroke);
    }
    Due.due("book(-1, 0)", x.book(-1, 0), 24);
    x.add(1, 4);
    Due.due("book(-1, 0)", x.book(-1, 0), 25);
    Offices.line(x, 0, 0, 0, 0, 0);
    x.rub(1, 3);
    Due.due("book(-1, 0), the 26th", x.book(-1, 0), 25);
    Offices.line(x, 0, 0, 0, 0, 1);
    Offices.line(x, 23, 0, 1, 0, 4);
    Offices.line(x, 24, 0, 1, 1, 3);
    Due.due("book(25, 0)", x.book(25, 0), -2);
  }

  private static void byHand() {
    Sentences.terms("ADDED, RUBBED: a stroke is in a MARK, isn't any more");
    MarkOffice x = Offices.of(1, 1);
    x.add(0, 19);
    Due.due("of(0, 0)", x.of(0, 0), 1 | 1 << 19);
    x.rub(0, 0);
    Due.due("of(0, 0)", x.of(0, 0), 1 << 19);
    Due.due("of(1, 0), the other one", x.of(1, 0), 1);
    Sentences.terms("RENEWED: it is as registered");
    x.renew(0);
    Due.due("of(0, 0)", x.of(0, 0), 1);
    Due.due("is(3)", x.is(3), 0);
  }

  private static void fees() {
    Sentences.terms("A YEAR: MARKS by number");
    // MARK 0 owes 1 and makes FUND 1; MARK 1 owes 10 then, 5 if it came first.
    MarkOffice x = Offices.under("fee if fund=0 then 1+number*4 else 10 end;", 0, 0);
    x.year(1);
    Due.due("FUND", x.is(2), 11);
    Sentences.terms("FUND is more by fee");
    MarkOffice y = Offices.of(7, ALL, 0);
    y.year(1);
    Due.due("FUND", y.is(2), 23);
    Sentences.terms("(as it is then, ahead of what wears off;");
    // 431: stroke 11, then 7 of 10, below 10: worn off. MARK 1 owes what MARK 0 has left then.
    MarkOffice z = Offices.under("wears 10;fee size 0;", ALL, 0);
    Due.due("year(1)", z.year(1), 1);
    Due.due("FUND", z.is(2), 20 + 19);
    Sentences.terms("(as it is then, ahead");
    z.year(1);
    Due.due("FUND, the next YEAR by what is left", z.is(2), 39 + 19 + z.of(0, 2));
  }

  private static void heldFund() {
    Sentences.terms("held at 999999)");
    MarkOffice x = rich();
    x.year(1);
    Due.due("FUND, 1000296 is too much", x.is(2), 999999);
    // It is held at each MARK, so none sees more.
    MarkOffice y = rich();
    Due.due("text()", Due.told(y, "fee if fund>1000*1000-1 then 0 else 99 end;"), 3);
    y.by(3);
    y.year(2);
    Due.due("FUND", y.is(2), 999999);
    Due.due("of(0, 7), FUND isn't above", y.of(0, 7), 99);
  }

  private static void draws() {
    Sentences.terms("a draw by 20 (X mod 20, X becoming (X * 677 + 557) mod 30983 behind it): a stroke");
    // 431 mod 20 is 11, and 431 * 677 + 557 is 9 * 30983 and 13497.
    MarkOffice x = Offices.of(ALL & ~(1 << 11));
    x.year(1);
    Due.due("X behind a draw of 11, which isn't in it", x.is(1), 13497);
    MarkOffice y = Offices.of(1 << 11);
    y.year(1);
    Due.due("X behind a draw of 11, which is in it", y.is(1), 29024);
    int drawn = 431;
    MarkOffice z = Offices.of(0);
    for (int i = 0; i < 40; i++) {
      z.year(1);
      drawn = (drawn * 677 + 557) % 30983;
      Due.due("X behind " + (i + 1) + " draws", z.is(1), drawn);
    }
  }

  private static void wornOff() {
    Sentences.terms("is that in it, a draw by 10: below wears (as it is then): worn off (RUBBED)");
    // The second draw is 13497: 7 of 10.
    for (int wears = 0; wears <= 10; wears++) {
      MarkOffice x = Offices.under("wears " + wears + ";", ALL);
      Due.due("year(1), wears " + wears, x.year(1), wears > 7 ? 1 : 0);
      Due.due("of(0, 0), wears " + wears, x.of(0, 0), wears > 7 ? ALL & ~(1 << 11) : ALL);
    }
    // As it is then: FUND has the fee, the YEAR isn't one more yet.
    MarkOffice y = Offices.under("wears if fund=5 and year=0 and which=11 then 8 else 0 end;fee 5;", ALL);
    Due.due("year(1)", y.year(1), 1);
    MarkOffice z = Offices.under("wears 10;", ALL & ~(1 << 11));
    Due.due("year(1), it isn't in it", z.year(1), 0);
  }

  private static void yearsOver() {
    Sentences.terms("YEAR is one more");
    MarkOffice x = Offices.under("year 1;", 1);
    x.year(1);
    Due.due("YEAR", x.is(0), 1);
    Sentences.terms("(at 9999 none can pass)");
    Offices.pass(x, 9999);
    int[] seen = Offices.seen(x);
    Due.due("year(1)", x.year(1), -1);
    Due.due("played(0)", x.played(0), 0);
    Offices.same("nothing is done", Offices.seen(x), seen);
    // 431: 5 of 6, a YEAR.
    int fund = x.is(2);
    Due.due("ages(0, 1)", x.ages(0, 1), 9999);
    Due.due("X, the draw of the age alone", x.is(1), Offices.after(431));
    Due.due("FUND", x.is(2), fund);
  }

  private static void writtenDown() {
    Sentences.terms("Added, rubbed, renewed, worn off are written down");
    MarkOffice x = Offices.under("wears 10;", ALL & ~3);
    x.add(0, 0);
    x.rub(0, 2);
    x.renew(0);
    x.year(1);
    Due.due("book(-1, 0)", x.book(-1, 0), 4);
    Offices.line(x, 0, 0, 0, 0, 0);
    Offices.line(x, 1, 0, 0, 1, 2);
    Offices.line(x, 2, 0, 0, 2, -1);
    Offices.line(x, 3, 0, 0, 3, 11);
    // Nothing else is: a MARK that is told, a YEAR in which nothing wears off.
    x.mark(5);
    x.by(-1);
    x.witness(0, true);
    x.said(0, 0, 0);
    x.undo();
    Due.due("book(-1, 0)", x.book(-1, 0), 3);
    MarkOffice y = Offices.under("wears 0;", ALL);
    y.year(60);
    Due.due("book(-1, 0)", y.book(-1, 0), 0);
  }

  private static void steps() {
    Sentences.terms("STEPS: ADDED, RUBBED, RENEWED, a YEAR (each), AGES (see V)");
    MarkOffice x = Offices.of(1);
    x.add(0, 1);
    Due.due("ADDED", x.about(3), 1);
    x.rub(0, 0);
    Due.due("RUBBED", x.about(3), 2);
    x.renew(0);
    Due.due("RENEWED", x.about(3), 3);
    x.year(4);
    Due.due("four YEARS", x.about(3), 7);
    x.ages(5, 40);
    Due.due("AGES", x.about(3), 8);
    x.mark(1);
    Due.told(x, "fee 1;");
    x.by(0);
    x.witness(1, true);
    x.said(0, 0, 0);
    x.image();
    x.foretold(5, 0);
    Due.due("nothing else is one", x.about(3), 8);
    x.add(5, 1);
    x.rub(0, 20);
    x.renew(9);
    x.year(61);
    x.ages(0, 41);
    Due.due("nor is what can't be", x.about(3), 8);
  }

  private static void thirty() {
    Sentences.terms("the latest 30 can be taken back, the latest first");
    MarkOffice x = Offices.of(0, 0);
    for (int i = 0; i < 29; i++) {
      x.add(i / 20, i % 20);
    }
    Due.due("about(3)", x.about(3), 29);
    x.add(1, 9);
    Due.due("about(3)", x.about(3), 30);
    x.add(1, 10);
    Due.due("about(3), the 31st", x.about(3), 30);
    for (int i = 30; i > 0; i--) {
      Due.due("undo()", x.undo(), i - 1);
      int strokes = Math.min(i, 20);
      Due.due("of(0, 0), the latest first", x.of(0, 0), (1 << strokes) - 1);
      Due.due("of(1, 0), the latest first", x.of(1, 0), (1 << i - strokes) - 1);
    }
    Due.due("undo(), the eldest can't be any more", x.undo(), -1);
    Due.due("of(0, 0)", x.of(0, 0), 1);
  }

  private static void takenBack() {
    Sentences.terms("(strokes now, FUND, YEAR, X, BOOK are as ahead of it;");
    MarkOffice x = Offices.under("wears 10;fee 7;", ALL);
    x.year(1);
    int[] ahead = {x.of(0, 0), x.is(2), x.is(0), x.is(1), x.book(-1, 0)};
    Offices.same("behind a YEAR", ahead, new int[] {ALL & ~(1 << 11), 7, 1, 29024, 1});
    // So many YEARS are taken back one by one; AGES at once.
    x.year(2);
    x.undo();
    x.undo();
    int[] back = {x.of(0, 0), x.is(2), x.is(0), x.is(1), x.book(-1, 0)};
    Offices.same("two YEARS taken back", back, ahead);
    x.ages(3, 40);
    Due.due("X is other", x.is(1) == ahead[3], false);
    x.undo();
    int[] again = {x.of(0, 0), x.is(2), x.is(0), x.is(1), x.book(-1, 0)};
    Offices.same("AGES taken back", again, ahead);
    // Lines that a full BOOK has lost come back.
    MarkOffice y = Offices.of(0, 0);
    for (int i = 0; i < 26; i++) {
      y.add(i / 20, i % 20);
    }
    y.undo();
    Due.due("book(-1, 0)", y.book(-1, 0), 25);
    Offices.line(y, 0, 0, 0, 0, 0);
    Offices.line(y, 24, 0, 1, 0, 4);
  }

  private static void marksSince() {
    Sentences.terms("MARKS told since are as registered)");
    MarkOffice x = Offices.of(1);
    x.add(0, 1);
    x.mark(4);
    x.add(1, 5);
    x.add(1, 6);
    x.undo();
    Due.due("of(1, 0), told ahead of that STEP", x.of(1, 0), 4 | 1 << 5);
    x.undo();
    x.undo();
    Due.due("about(0)", x.about(0), 2);
    Due.due("of(0, 0)", x.of(0, 0), 1);
    Due.due("of(1, 0), told since", x.of(1, 0), 4);
    // Also when it was changed by a STEP that can't be taken back by itself any more.
    MarkOffice y = Offices.of(0);
    y.add(0, 0);
    y.mark(8);
    y.ages(1, 1);
    y.rub(1, 3);
    y.image();
    y.undo();
    y.undo();
    y.undo();
    Due.due("of(1, 0)", y.of(1, 0), 8);
    y.back();
    Due.due("of(1, 0), BACK", y.of(1, 0), 0);
  }
}
