/** Promises 8 to 14, 18, 19, 45 and 46: what changes marks, steps, the book, what is foretold. */
public final class StepsTest {
  private static final int ALL = (1 << 20) - 1;

  public static void main(String[] args) {
    addAndRub();
    renew();
    oneYear();
    lawsInAYear();
    years();
    lastYear();
    fullFund();
    played();
    playedToItsEnd();
    ages();
    agesOfMoreDraws();
    undo();
    undoOfMarksSince();
    thirtySteps();
    book();
    foretold();
    worn();
    Due.close("StepsTest");
  }

  private static int after(int x) {
    return (x * 677 + 557) % 30983;
  }

  private static MarkOffice of(int... marks) {
    MarkOffice x = new MarkOffice();
    for (int strokes : marks) {
      x.mark(strokes);
    }
    return x;
  }

  private static void line(MarkOffice x, int i, int year, int mark, int what, int stroke) {
    int[] line = {year, mark, what, stroke};
    for (int tells = 0; tells < 4; tells++) {
      Due.due("book(" + i + ", " + tells + ")", x.book(i, tells), line[tells]);
    }
  }

  private static void addAndRub() {
    MarkOffice x = of(1, 0);
    Due.due("add(0, 0), it has it", x.add(0, 0), false);
    Due.due("rub(0, 1), it hasn't it", x.rub(0, 1), false);
    int[][] others = {{2, 5}, {-1, 5}, {0, 20}, {0, -1}, {8, 0}, {0, 32}};
    for (int[] other : others) {
      Due.due("add of others", x.add(other[0], other[1]), false);
      Due.due("rub of others", x.rub(other[0], other[1]), false);
    }
    Due.due("no step", x.about(3), 0);
    Due.due("no line", x.book(-1, 0), 0);
    Due.due("add(1, 19)", x.add(1, 19), true);
    Due.due("rub(0, 0)", x.rub(0, 0), true);
    Due.due("of(0, 0)", x.of(0, 0), 0);
    Due.due("of(1, 0)", x.of(1, 0), 1 << 19);
    Due.due("about(3)", x.about(3), 2);
    line(x, 0, 0, 1, 0, 19);
    line(x, 1, 0, 0, 1, 0);
    Due.due("X stays", x.is(1), 431);
  }

  private static void renew() {
    MarkOffice x = of(7, 1);
    Due.due("renew(0), none other", x.renew(0), -1);
    Due.due("renew(2)", x.renew(2), -1);
    Due.due("renew(-1)", x.renew(-1), -1);
    x.rub(0, 0);
    x.rub(0, 1);
    x.add(0, 10);
    Due.due("renew(0)", x.renew(0), 3);
    Due.due("of(0, 0)", x.of(0, 0), 7);
    Due.due("about(3)", x.about(3), 4);
    line(x, 3, 0, 0, 2, -1);
    Due.due("renew(0) again", x.renew(0), -1);
    Due.due("undo()", x.undo(), 3);
    Due.due("of(0, 0) ahead", x.of(0, 0), 4 | 1 << 10);
  }

  private static void oneYear() {
    MarkOffice x = of(ALL);
    // 431 mod 20 is 11; 13497 mod 10 is 7, not below 3.
    Due.due("year(1)", x.year(1), 0);
    Due.due("X", x.is(1), after(after(431)));
    Due.due("FUND", x.is(2), 20);
    Due.due("YEAR", x.is(0), 1);
    Due.due("no line", x.book(-1, 0), 0);
    // Without stroke 11 there is no second draw.
    MarkOffice y = of(ALL & ~(1 << 11));
    Due.due("year(1)", y.year(1), 0);
    Due.due("X", y.is(1), after(431));
    MarkOffice none = of();
    Due.due("year(1) without marks", none.year(1), 0);
    Due.due("X", none.is(1), 431);
    Due.due("YEAR", none.is(0), 1);
  }

  private static MarkOffice under(String law, int... marks) {
    MarkOffice x = of(marks);
    Due.told(x, law);
    Due.due("by(0) of " + law, x.by(0), true);
    return x;
  }

  private static void lawsInAYear() {
    MarkOffice x = under("wears 8;", ALL);
    Due.due("7 is below 8", x.year(1), 1);
    Due.due("of(0, 0)", x.of(0, 0), ALL & ~(1 << 11));
    line(x, 0, 0, 0, 3, 11);
    Due.due("fee ahead of what wears off", x.is(2), 20);
    Due.due("7 isn't below 7", under("wears 7;", ALL).year(1), 0);
    Due.due("wears behind the fee", under("wears if fund=5 then 10 else 0 end;fee 5;", ALL).year(1), 1);
    Due.due("wears in the YEAR ahead", under("wears if year=0 then 10 else 0 end;", ALL).year(1), 1);
    Due.due("wears of the stroke", under("wears if which=11 then 10 else 0 end;", ALL).year(1), 1);
    Due.due("wears of another stroke", under("wears if which=11 then 0 else 10 end;", ALL).year(1), 0);
    // MARK 1 owes as it is when MARK 0 has worn and paid: 19 strokes then, FUND 19.
    MarkOffice y = under("wears 8;fee size 0+fund;", ALL, 0);
    y.year(1);
    Due.due("fee of the second", y.is(2), 20 + 19 + 20);
    // MARKS by number: the second draws behind the first.
    MarkOffice z = under("wears 10;", ALL, ALL);
    Due.due("both wear", z.year(1), 2);
    int third = after(after(431));
    line(z, 1, 0, 1, 3, third % 20);
    Due.due("X", z.is(1), after(after(third)));
  }

  private static void years() {
    MarkOffice x = under("wears 10;", ALL);
    Due.due("year(0)", x.year(0), -1);
    Due.due("year(-1)", x.year(-1), -1);
    Due.due("year(61)", x.year(61), -1);
    Due.due("nothing is done", x.about(3), 0);
    int worn = x.year(5);
    Due.due("as many as went", worn, 20 - x.of(0, 2));
    Due.due("each is a line", x.book(-1, 0), worn);
    Due.due("each YEAR is a step", x.about(3), 5);
    Due.due("undo()", x.undo(), 4);
    Due.due("YEAR", x.is(0), 4);
    MarkOffice y = under("wears 10;", ALL);
    y.year(4);
    Due.due("X as behind four", x.is(1), y.is(1));
    Due.due("FUND as behind four", x.is(2), y.is(2));
    Due.due("strokes as behind four", x.of(0, 0), y.of(0, 0));
    Due.due("year(60)", x.year(60), x.book(-1, 0) - y.book(-1, 0));
    Due.due("about(3)", x.about(3), 30);
  }

  /** The YEAR of an office comes to what is wanted. */
  private static void pass(MarkOffice x, int year) {
    while (x.is(0) + 60 <= year) {
      x.year(60);
    }
    x.year(year - x.is(0));
    Due.due("YEAR", x.is(0), year);
  }

  private static void lastYear() {
    MarkOffice x = under("wears 10;year 5;", ALL);
    pass(x, 9990);
    Due.due("beyond 9999", x.year(10), -1);
    Due.due("nothing is done", x.is(0), 9990);
    Due.due("to 9997", x.year(7), 0);
    Due.due("those that can pass do", x.played(0), 1);
    Due.due("YEAR", x.is(0), 9999);
    Due.due("year(1)", x.year(1), -1);
    int drawn = x.is(1);
    Due.due("none can pass", x.played(0), 1);
    Due.due("X stays", x.is(1), drawn);
    x.renew(0);
    Due.due("foretold", x.foretold(60, 0), ALL);
    x.undo();
    // A seed of 0 draws 431 first: 5 of 6, a YEAR.
    Due.due("ages", x.ages(0, 1), 9999);
    Due.due("no draw of a YEAR", x.is(1), after(431));
    Due.due("undo()", x.undo(), 29);
    Due.due("undo()", x.undo(), 28);
    Due.due("YEAR", x.is(0), 9998);
    Due.due("year(1)", x.year(1), 0);
    x.add(0, 3);
    line(x, x.book(-1, 0) - 1, 9999, 0, 0, 3);
  }

  private static void fullFund() {
    MarkOffice x = under("wears 0;fee 99;", 1, 1, 1, 1, 1, 1, 1, 1);
    pass(x, 1262);
    Due.due("FUND", x.is(2), 1262 * 8 * 99);
    x.year(1);
    Due.due("FUND, no more", x.is(2), 999999);
    x.year(1);
    Due.due("FUND, no more", x.is(2), 999999);
    x.undo();
    x.undo();
    Due.due("FUND", x.is(2), 1262 * 8 * 99);
  }

  private static void played() {
    MarkOffice x = of(1);
    Due.due("played(0) of none", x.played(0), -2);
    Due.told(x, "draw bar 1;fee 50;add 5 to 1;rub 0 of 0;year 2;wears 0;renew 0;");
    Due.due("played(-1)", x.played(-1), -2);
    Due.due("played(1)", x.played(1), -2);
    Due.due("played(0)", x.played(0), -1);
    Due.due("a mark is drawn", x.of(1, 1), 12);
    Due.due("added", x.of(1, 0), 12 | 1 << 5);
    Due.due("renewed", x.of(0, 0), 1);
    Due.due("YEAR", x.is(0), 2);
    // Its laws don't rule: MARK 0 has none, MARK 1 three strokes.
    Due.due("FUND", x.is(2), 6);
    Due.due("steps: 1, 1, 2 and 1", x.about(3), 5);
    Due.due("book: three by hand", x.book(-1, 0) - x.ledger(3), 3);
    Due.told(x, "add 0 to 1;rub 0 of 1;".repeat(12));
    Due.due("played of 24 clauses", x.played(1), -1);
    Due.due("steps", x.about(3), 29);
    Due.told(x, "fee 1;wears 2;");
    Due.due("played of laws alone", x.played(2), -1);
    Due.told(x, "");
    Due.due("played of nothing", x.played(3), -1);
  }

  private static void shape(String shape, int strokes) {
    MarkOffice x = new MarkOffice();
    Due.told(x, "draw " + shape + ";");
    Due.due("played draw " + shape, x.played(0), -1);
    Due.due("draw " + shape, x.of(0, 1), strokes);
  }

  private static void playedToItsEnd() {
    shape("stroke 0", 1);
    shape("stroke 19", 1 << 19);
    shape("bar 0", 3);
    shape("bar 2", 48);
    shape("post 0", 1 << 6 | 1 << 9);
    shape("post 2", 1 << 8 | 1 << 11);
    shape("frame", 2931);
    shape("turn stroke 0", 1 << 8);
    shape("tip stroke 0", 2);
    shape("turn tip stroke 0", 1 << 11);
    shape("tip turn stroke 0", 1 << 6);
    shape("frame less bar 0 with stroke 0", 2931 & ~2);
    shape("frame less (bar 0 with stroke 4)", 2931 & ~19);
    shape("turn bar 0 with bar 0", 1 << 8 | 1 << 11 | 3);
    shape("turn (bar 0 with bar 0)", 1 << 8 | 1 << 11);
    shape("frame less frame", 0);
    MarkOffice x = of(1);
    Due.told(x, "add 1 to 0;add 1 to 0;add 2 to 0;");
    Due.due("the second can't be", x.played(0), 1);
    Due.due("what was done stays", x.of(0, 0), 3);
    Due.told(x, "fee 1;rub 9 of 0;");
    Due.due("laws count", x.played(1), 1);
    Due.told(x, "add 3 to 5;");
    Due.due("no such mark", x.played(2), 0);
    Due.told(x, "renew 0;renew 0;");
    Due.due("none other any more", x.played(3), 1);
    MarkOffice y = of(0, 0, 0, 0, 0, 0, 0);
    Due.told(y, "draw frame;draw frame;");
    Due.due("no ninth", y.played(0), 1);
    Due.due("about(0)", y.about(0), 8);
    Due.due("no step", y.about(3), 0);
  }

  private static void ages() {
    MarkOffice x = of(0, 1);
    int[][] others = {{-1, 1}, {10000, 1}, {0, 0}, {0, 41}, {0, -1}};
    for (int[] other : others) {
      Due.due("ages of others", x.ages(other[0], other[1]), -1);
    }
    Due.due("X stays", x.is(1), 431);
    Due.due("no step", x.about(3), 0);
    // 433: 1 of 6, MARK 0 (72), stroke 13.
    Due.due("ages(1, 1)", x.ages(1, 1), 0);
    Due.due("X", x.is(1), after(433));
    Due.due("added", x.of(0, 0), 1 << 13);
    line(x, 0, 0, 0, 0, 13);
    Due.due("about(3)", x.about(3), 1);
    Due.due("ages(1, 1) again: nothing", x.ages(1, 1), 0);
    Due.due("no line", x.book(-1, 0), 1);
    Due.due("a step all the same", x.about(3), 2);
    // 489: 3 of 6, MARK 1 (81), 1 of 4; it is as registered yet.
    x.ages(29, 1);
    Due.due("nothing is other", x.book(-1, 0), 1);
    x.rub(1, 0);
    x.ages(29, 1);
    Due.due("renewed", x.of(1, 0), 1);
    line(x, 2, 0, 1, 2, -1);
    // 435 and 531: 3 of 6, MARK 0 (72, 88), 3 of 4: nothing.
    x.ages(50, 1);
    x.ages(2, 1);
    Due.due("not renewed", x.of(0, 0), 1 << 13);
    // 437: 5 of 6, a YEAR.
    Due.due("ages(3, 1)", x.ages(3, 1), 1);
    Due.due("FUND", x.is(2), 2);
    Due.due("undo()", x.undo(), 7);
    Due.due("YEAR", x.is(0), 0);
    Due.due("X", x.is(1), after(435));
    Due.due("ages(9999, 40)", x.ages(9999, 40) > 0, true);
    Due.due("one step", x.about(3), 8);
    // 457: 1 of 6, MARK 4 (76), which is none.
    MarkOffice y = of(0);
    y.ages(13, 1);
    Due.due("no such mark", y.book(-1, 0), 0);
  }

  private static void agesOfMoreDraws() {
    // The first seed whose second draw rubs out of MARK 0, the first one doing nothing to it.
    int seed = 0;
    while (after(seed * 2 + 431) % 6 != 2 || after(seed * 2 + 431) / 6 % 8 != 0
        || (seed * 2 + 431) % 6 != 3) {
      seed++;
    }
    int second = after(seed * 2 + 431);
    MarkOffice x = of(ALL);
    x.ages(seed, 2);
    Due.due("rubbed", x.of(0, 0), ALL & ~(1 << second % 20));
    line(x, 0, 0, 0, 1, second % 20);
    Due.due("X", x.is(1), after(second));
    x.ages(seed, 2);
    Due.due("it hasn't it any more", x.book(-1, 0), 1);
    Due.due("undo()", x.undo(), 1);
    Due.due("undo()", x.undo(), 0);
    Due.due("of(0, 0)", x.of(0, 0), ALL);
    Due.due("X", x.is(1), 431);
    // 4 of 6 is a YEAR, too.
    int four = 0;
    while (after(four * 2 + 431) % 6 != 4 || (four * 2 + 431) % 6 != 3) {
      four++;
    }
    Due.due("ages(" + four + ", 2)", of(0).ages(four, 2), 1);
    // A YEAR in AGES draws behind the age's own draw.
    MarkOffice y = of(ALL);
    y.ages(0, 1);
    Due.due("X", y.is(1), after(after(after(431))));
  }

  private static void undo() {
    MarkOffice x = under("wears 10;", ALL);
    Due.due("undo() of none", x.undo(), -1);
    x.add(0, 5);
    x.rub(0, 5);
    x.year(1);
    x.witness(3, true);
    x.said(0, 0, 1);
    Due.told(x, "fee 1;");
    x.by(1);
    Due.due("undo()", x.undo(), 1);
    Due.due("YEAR", x.is(0), 0);
    Due.due("X", x.is(1), 431);
    Due.due("FUND", x.is(2), 0);
    Due.due("strokes", x.of(0, 0), ALL & ~(1 << 5));
    Due.due("BOOK", x.book(-1, 0), 1);
    // What is told isn't taken back.
    Due.due("about(1)", x.about(1), 2);
    Due.due("about(2)", x.about(2), 1);
    Due.due("about(4)", x.about(4), 1);
    Due.due("about(5)", x.about(5), 1);
    Due.due("undo()", x.undo(), 0);
    Due.due("strokes", x.of(0, 0), ALL);
    Due.due("undo()", x.undo(), -1);
  }

  private static void undoOfMarksSince() {
    MarkOffice x = of(1);
    x.add(0, 1);
    x.mark(4);
    x.add(1, 19);
    Due.due("undo()", x.undo(), 1);
    Due.due("MARK 1", x.of(1, 0), 4);
    x.add(1, 18);
    x.rub(0, 0);
    x.undo();
    Due.due("MARK 1 stays", x.of(1, 0), 4 | 1 << 18);
    x.undo();
    x.undo();
    Due.due("MARKS stay", x.about(0), 2);
    Due.due("MARK 0", x.of(0, 0), 1);
    Due.due("MARK 1 as registered", x.of(1, 0), 4);
    Due.due("is(3)", x.is(3), 0);
  }

  private static void thirtySteps() {
    MarkOffice x = of(0);
    for (int i = 0; i < 33; i++) {
      boolean in = i % 2 == 0;
      Due.due("step " + i, in ? x.add(0, i / 2) : x.rub(0, i / 2), true);
    }
    Due.due("about(3)", x.about(3), 30);
    for (int left = 29; left >= 0; left--) {
      Due.due("undo()", x.undo(), left);
    }
    Due.due("undo()", x.undo(), -1);
    // Three steps stay: stroke 0 added and rubbed, stroke 1 added.
    Due.due("of(0, 0)", x.of(0, 0), 2);
    Due.due("book(-1, 0)", x.book(-1, 0), 3);
    Due.due("add", x.add(0, 7), true);
    Due.due("about(3)", x.about(3), 1);
    Due.due("undo()", x.undo(), 0);
    Due.due("of(0, 0)", x.of(0, 0), 2);
  }

  private static void book() {
    MarkOffice x = of(0, 0);
    for (int i = 0; i < 20; i++) {
      x.add(1, i);
    }
    x.year(1);
    for (int i = 0; i < 3; i++) {
      x.rub(1, 19 - i);
    }
    int worn = x.ledger(3);
    Due.due("book(-1, 0)", x.book(-1, 0), 23 + worn);
    Due.due("book(-1, 9)", x.book(-1, 9), 23 + worn);
    x.renew(1);
    x.add(0, 8);
    x.add(0, 9);
    Due.due("the latest 25", x.book(-1, 0), 25);
    // 26 by hand and what wore off: the eldest went.
    line(x, 0, 0, 1, 0, 1 + worn);
    line(x, 24, 1, 0, 0, 9);
    line(x, 22, 1, 1, 2, -1);
    Due.due("ledger(0)", x.ledger(0), 21 - worn);
    Due.due("ledger(1)", x.ledger(1), 3);
    Due.due("ledger(2)", x.ledger(2), 1);
    Due.due("ledger(-1)", x.ledger(-1), -2);
    Due.due("ledger(4)", x.ledger(4), -2);
    Due.due("book(25, 0)", x.book(25, 0), -2);
    Due.due("book(-2, 0)", x.book(-2, 0), -2);
    Due.due("book(0, -1)", x.book(0, -1), -2);
    Due.due("book(0, 4)", x.book(0, 4), -2);
    x.undo();
    x.undo();
    x.undo();
    // The book is as it was ahead, the lines that went since, too.
    Due.due("book(-1, 0)", x.book(-1, 0), 23 + worn);
    line(x, 0, 0, 1, 0, 0);
  }

  private static void foretold() {
    MarkOffice x = under("wears 10;fee 3;", ALL, 5);
    x.year(2);
    int[] was = {x.is(0), x.is(1), x.is(2), x.is(3), x.book(-1, 0), x.about(3), x.of(0, 0)};
    int then = x.foretold(7, 0);
    int other = x.foretold(7, 1);
    int next = x.foretold(1, 0);
    int[] now = {x.is(0), x.is(1), x.is(2), x.is(3), x.book(-1, 0), x.about(3), x.of(0, 0)};
    for (int i = 0; i < was.length; i++) {
      Due.due("nothing is changed, " + i, now[i], was[i]);
    }
    x.year(1);
    Due.due("foretold(1, 0)", next, x.of(0, 0));
    x.year(6);
    Due.due("foretold(7, 0)", then, x.of(0, 0));
    Due.due("foretold(7, 1)", other, x.of(1, 0));
    Due.due("foretold(0, 0)", x.foretold(0, 0), -1);
    Due.due("foretold(61, 0)", x.foretold(61, 0), -1);
    Due.due("foretold(1, 2)", x.foretold(1, 2), -1);
    Due.due("foretold(1, -1)", x.foretold(1, -1), -1);
    pass(x, 9990);
    x.renew(0);
    int last = x.foretold(60, 0);
    x.year(9);
    Due.due("those that can pass", last, x.of(0, 0));
  }

  private static void worn() {
    MarkOffice x = of(7, 7, 7);
    Due.due("worn()", x.worn(), -1);
    x.add(2, 9);
    Due.due("worn()", x.worn(), 2);
    x.rub(1, 0);
    Due.due("worn(), the lowest of like ones", x.worn(), 1);
    x.rub(2, 0);
    Due.due("worn()", x.worn(), 2);
    // WAY 0 alone: 7 by WAY 4 is other than 7.
    x.rub(0, 2);
    x.add(0, 3);
    x.add(0, 5);
    Due.due("worn()", x.worn(), 0);
    Due.due("worn() without marks", of().worn(), -1);
  }
}
