/** Part IV of the terms, and promises 35 to 40 and 42 to 46. */
final class BoundsOfWitness {
  private static final int ALL = Offices.ALL;
  private static final int FRAME = 2931;
  private static final int TRIANGLE = 1 | 1 << 6 | 1 << 16;
  // Also such whose lower bits would do.
  private static final int[] NO_SETS = {-1, ALL + 1, ALL + 2, -ALL, Offices.LOWEST, Offices.LOWEST + 1,
      Offices.HIGHEST};

  private BoundsOfWitness() {}

  static void look() {
    told();
    fits();
    ask();
    nothingToAsk();
    games();
    freeStrokes();
    plays();
    whose();
    richest();
    worn();
    byTheBook();
    witnessPromised();
    whichPromised();
    askPromised();
    gamePromised();
    playPromised();
    saidPromised();
    lawsPromised();
    ledgerPromised();
  }

  private static void told() {
    Sentences.terms("A WITNESS (told: of a stroke whether it was seen; each stroke once)");
    MarkOffice x = Offices.of(3);
    Due.due("witness(0, true)", x.witness(0, true), 1);
    Due.due("witness(0, true), once more", x.witness(0, true), -2);
    Due.due("witness(0, false), the other way", x.witness(0, false), -2);
    Due.due("ways(0), it was seen all the same", x.ways(0), 1 | 1 << 4);
    Due.due("witness(19, false)", x.witness(19, false), 2);
    Due.due("witness(19, true), the other way", x.witness(19, true), -2);
    Due.due("about(4)", x.about(4), 2);
  }

  private static void fits() {
    Sentences.terms(": WAYS by which a MARK (now) has all that were seen and none that weren't");
    MarkOffice x = Offices.of(7, 1, 0, ALL);
    x.witness(8, true);
    // 0-1 comes to 2-5 by WAY 1, 1-2 by WAY 5; 3-4 never.
    Due.due("ways(0)", x.ways(0), 1 << 1 | 1 << 5);
    Due.due("ways(1)", x.ways(1), 1 << 1);
    Due.due("ways(2)", x.ways(2), 0);
    Due.due("ways(3)", x.ways(3), 255);
    // 3-4 comes to 1-4 by WAY 1.
    x.witness(7, false);
    Due.due("ways(0)", x.ways(0), 1 << 5);
    Due.due("ways(3)", x.ways(3), 0);
    x.rub(0, 2);
    Due.due("ways(0), now", x.ways(0), 1 << 1 | 1 << 5);
    Sentences.terms("(nothing told: all)");
    MarkOffice y = Offices.of(0, 1, ALL);
    for (int mark = 0; mark < 3; mark++) {
      Due.due("ways(" + mark + ")", y.ways(mark), 255);
    }
    y.witness(3, true);
    Due.due("ways(0), something is told", y.ways(0), 0);
    y.witness(-1, true);
    Due.due("ways(0), nothing is told any more", y.ways(0), 255);
    Sentences.terms("WHICH: MARKS that fit by some WAY");
    Due.due("which() of x", x.which(), 3);
    Due.due("which(), nothing told", y.which(), 7);
    Due.due("which() without marks", Offices.of().which(), 0);
    Due.due("which() of eight", Offices.of(0, 0, 0, 0, 0, 0, 0, 0).which(), 255);
  }

  private static void ask() {
    Sentences.terms("WHAT TO ASK: of MARKS that fit, each by each of its WAYS that fits "
        + "(each WAY counted, also those that are the same strokes)");
    // Of 16: stroke 0 is of the row by two WAYS, 14 to 2, each spoke of the cross by eight, 8 to 8.
    // Were those that are the same counted once, all would be 4 to 1.
    MarkOffice y = Offices.of(3, 12 | 1 << 7 | 1 << 10);
    Due.due("ask(), a spoke", y.ask(), 2);
    // Each of the rim is of 0-1 by one WAY and of the frame by eight: 9 to 7.
    Due.due("ask(), one of the rim", Offices.of(1, FRAME).ask(), 0);
    // Spokes that are of the frame alone are 8 to 8: less than those 9.
    Due.due("ask(), a spoke", Offices.of(FRAME | 12 | 1 << 7 | 1 << 10, 1).ask(), 2);
    Due.due("ask(), a spoke", Offices.of(1, FRAME | 12 | 1 << 7 | 1 << 10).ask(), 2);
    onlyThoseThatFit();
    Sentences.terms(": the stroke not told yet for which the greater part of them (having it or not) is least;");
    y.witness(2, true);
    // The cross alone fits now.
    Due.due("ask(), one fits", y.ask(), -1);
    MarkOffice z = Offices.of(1, 3);
    z.witness(0, false);
    // 0-1 by seven WAYS, the row by six: 4 of the lower row by 1 and 2, 10 to 3 is the least.
    Due.due("ask(), 0 told", z.ask(), 4);
    Sentences.terms("of like ones the lowest; none (");
    MarkOffice same = Offices.of(0, 0);
    Due.due("ask(), all alike", same.ask(), 0);
    same.witness(0, false);
    Due.due("ask(), the lowest not told", same.ask(), 1);
    MarkOffice all = Offices.of(ALL, ALL);
    Due.due("ask(), all have it", all.ask(), 0);
  }

  private static void onlyThoseThatFit() {
    // All doesn't fit; 0-1 does by WAY 0 alone, the row by WAYS 0 and 4: stroke 1 is 2 to 1.
    MarkOffice x = Offices.of(ALL, 1, 3);
    x.free(0, 0);
    x.witness(0, true);
    x.witness(12, false);
    Due.due("which()", x.which(), 6);
    Due.due("ask(), two of three fit", x.ask(), 1);
    Due.due("ask() again", x.ask(), 1);
  }

  private static void nothingToAsk() {
    Sentences.terms("none (one MARK fits, or none; ");
    Due.due("ask() without marks", Offices.of().ask(), -1);
    Due.due("ask() of one, by eight WAYS", Offices.of(1).ask(), -1);
    MarkOffice x = Offices.of(1, 3);
    x.witness(12, true);
    Due.due("ask(), none fits", x.ask(), -1);
    Sentences.terms("or all strokes are told)");
    MarkOffice y = Offices.of(0, 0);
    for (int stroke = 0; stroke < 19; stroke++) {
      y.witness(stroke, false);
    }
    Due.due("ask(), one isn't told", y.ask(), 19);
    y.witness(19, false);
    Due.due("ask(), all are told", y.ask(), -1);
    Due.due("which(), both fit", y.which(), 3);
  }

  private static void game(int strokes, int free, int wins, int play) {
    MarkOffice x = new MarkOffice();
    Due.due("game(" + strokes + ", " + free + ")", x.game(strokes, free), wins);
    Due.due("play(" + strokes + ", " + free + ")", x.play(strokes, free), play);
  }

  private static void games() {
    Sentences.terms("A GAME: strokes are there;");
    game(0, 3, 0, -1);
    game(1, 3, 1, 1);
    Sentences.terms("by turns one adds one of those free (");
    game(0, 1, 1, 0);
    game(0, 3, 0, -1);
    game(0, 7, 1, 0);
    game(0, 15, 0, -1);
    Sentences.terms("who closes a line (HOLES more than ahead of it) loses at once");
    game(0, TRIANGLE, 0, -1);
    game(1, TRIANGLE, 1, 6);
    game(1 | 1 << 6, 1 << 16, 0, -1);
    // What is closed already is no more holes; a crossing is none.
    game(TRIANGLE, 2, 1, 1);
    game(1 << 12, 1 << 16, 1, 16);
    // The frame's eighth closes it.
    game(0, FRAME, 1, 0);
    Sentences.terms(", who can't add one, too");
    game(0, 0, 0, -1);
    game(5, 0, 0, -1);
    game(ALL, 0, 0, -1);
    Sentences.terms(": whether the one who begins wins;");
    game(1, TRIANGLE & ~1, 1, 6);
    game(0, 1 | 1 << 5, 0, -1);
    game(0, 1 | 1 << 5 | 1 << 13, 1, 0);
  }

  private static void freeStrokes() {
    Sentences.terms("(10 at most are told;");
    game(0, 1023, PlainGame.firstWins(0, 1023) ? 1 : 0, PlainGame.lowestWin(0, 1023));
    game(0, 2047, -1, -1);
    game(0, ALL, -1, -1);
    // Eleven are told, though some of them are there.
    game(1, 2047, -1, -1);
    game(2047, 2047, -1, -1);
    Sentences.terms("those there aside)");
    game(1, 1, 0, -1);
    game(1, 3, 1, 1);
    game(1023, 1023, 0, -1);
    game(ALL, 1023, 0, -1);
  }

  private static void plays() {
    Sentences.terms("A PLAY: the lowest stroke by which it wins");
    // 0-1 would close the triangle: 1-2 wins.
    game(1 << 6 | 1 << 16, 3, 1, 1);
    game(1 << 6 | 1 << 16, 1 | 1 << 19, 1, 19);
    game(0, 7, 1, 0);
    game(1, TRIANGLE | 2, 0, -1);
    // Against games played out.
    for (int i = 1; i < 60; i++) {
      int strokes = i * 7919 & i * 104729 & ALL;
      int free = i * 1299709 & ALL;
      while (Integer.bitCount(free) > 6) {
        free &= free - 1;
      }
      game(strokes, free, PlainGame.firstWins(strokes, free) ? 1 : 0, PlainGame.lowestWin(strokes, free));
    }
  }

  private static void whose() {
    Sentences.terms("WHOSE LAW (told: SAID, 8 at most: a MARK, a stroke, wears 0 .. 10)");
    MarkOffice x = Offices.of(7, 0);
    for (int said = 1; said <= 8; said++) {
      Due.due("said(1, 19, " + (said + 2) + ")", x.said(1, 19, said + 2), said);
    }
    Due.due("said(1, 19, 3), a ninth", x.said(1, 19, 3), -2);
    Sentences.terms(": TEXTS (bits) by whose wears");
    MarkOffice y = Offices.of(7, 0);
    Due.due("whose() without texts", y.whose(), 0);
    Due.told(y, "wears which;");
    Due.told(y, "fee 1;");
    Due.told(y, "wears strokes;");
    Due.told(y, "wears 0;");
    Due.due("whose(), nothing said", y.whose(), 15);
    y.said(0, 0, 0);
    Due.due("whose(), 0", y.whose(), 9);
    y.said(-1, 0, 0);
    y.said(0, 9, 9);
    Due.due("whose(), of that stroke", y.whose(), 1);
    Sentences.terms("(a TEXT without it: by what is so without)");
    y.said(-1, 0, 0);
    y.said(0, 5, 3);
    Due.due("whose(), 3", y.whose(), 6);
    y.by(3);
    Due.due("whose(), whatever rules", y.whose(), 6);
    Sentences.terms("all are so (as now)");
    y.said(1, 5, 3);
    Due.due("whose(), both", y.whose(), 2);
    y.add(1, 0);
    y.add(1, 1);
    y.add(1, 2);
    Due.due("whose(), now", y.whose(), 6);
    y.said(1, 5, 4);
    Due.due("whose(), none can be", y.whose(), 0);
  }

  private static void richest() {
    Sentences.terms("RICHEST: the MARK of most fee (above 0);");
    MarkOffice x = Offices.of(1, 7, 3);
    Due.due("richest()", x.richest(), 1);
    MarkOffice one = Offices.of(0, 1);
    Due.due("richest(), by 1", one.richest(), 1);
    Sentences.terms("of like ones the lowest; none. MOST WORN");
    Due.due("richest(), like ones", Offices.of(0, 5, 3).richest(), 1);
    Due.due("richest(), all above 99", Offices.under("fee 100+number;", 0, 0, 0).richest(), 0);
    Due.due("richest() without marks", Offices.of().richest(), -1);
    Due.due("richest(), 0", Offices.of(0, 0).richest(), -1);
    Due.due("richest(), below 0", Offices.under("fee number-9;", 7, 7).richest(), -1);
  }

  private static void worn() {
    Sentences.terms("MOST WORN: the MARK now most strokes apart from as registered (WAY 0; one at least);");
    MarkOffice x = Offices.of(3, 7, 0);
    x.rub(1, 0);
    Due.due("worn(), by one", x.worn(), 1);
    x.add(2, 0);
    x.add(2, 1);
    Due.due("worn(), added ones, too", x.worn(), 2);
    // The upper row is the lower one by another WAY, but four strokes apart by WAY 0.
    x.rub(0, 0);
    x.rub(0, 1);
    x.add(0, 4);
    x.add(0, 5);
    Due.due("worn(), by WAY 0", x.worn(), 0);
    Sentences.terms("of like ones the lowest; none. BY THE BOOK");
    MarkOffice y = Offices.of(1, 1, 1);
    y.rub(2, 0);
    y.rub(1, 0);
    Due.due("worn(), like ones", y.worn(), 1);
    Due.due("worn(), none", Offices.of(1, 2).worn(), -1);
    Due.due("worn() without marks", Offices.of().worn(), -1);
    y.renew(1);
    y.add(2, 0);
    Due.due("worn(), as registered again", y.worn(), -1);
  }

  private static void byTheBook() {
    Sentences.terms("BY THE BOOK: how many lines there are of a kind");
    MarkOffice x = Offices.under("wears 10;", ALL & ~3);
    x.add(0, 0);
    x.add(0, 1);
    x.rub(0, 2);
    x.renew(0);
    x.year(1);
    int[] lines = {2, 1, 1, 1};
    for (int what = 0; what < 4; what++) {
      Due.due("ledger(" + what + ")", x.ledger(what), lines[what]);
    }
    // Those that the BOOK has yet: the latest 25.
    MarkOffice y = Offices.of(0, 0);
    y.add(0, 0);
    y.rub(0, 0);
    for (int i = 0; i < 24; i++) {
      y.add(i / 20, i % 20);
    }
    Due.due("ledger(0)", y.ledger(0), 24);
    Due.due("ledger(1)", y.ledger(1), 1);
    y.add(1, 4);
    Due.due("ledger(0)", y.ledger(0), 25);
    Due.due("ledger(1)", y.ledger(1), 0);
    y.undo();
    Due.due("ledger(1), taken back", y.ledger(1), 1);
  }

  private static void witnessPromised() {
    Sentences.promise(35, "A WITNESS: how many strokes are told");
    MarkOffice x = new MarkOffice();
    for (int stroke = 0; stroke < 20; stroke++) {
      Due.due("witness(" + stroke + ")", x.witness(stroke, stroke % 3 == 0), stroke + 1);
    }
    Sentences.promise(35, "(stroke NONE: none any more)");
    Due.due("witness(-1, true)", x.witness(-1, true), 0);
    Due.due("about(4)", x.about(4), 0);
    Due.due("witness(-1, false), again", x.witness(-1, false), 0);
    Due.due("witness(0, false)", x.witness(0, false), 1);
    Sentences.promise(35, "-2 for others, ");
    for (int stroke : new int[] {-2, 20, 31, 32, 33, Offices.LOWEST, Offices.HIGHEST}) {
      Due.due("witness(" + stroke + ", true)", x.witness(stroke, true), -2);
      Due.due("witness(" + stroke + ", false)", x.witness(stroke, false), -2);
    }
    Due.due("about(4)", x.about(4), 1);
    Sentences.promise(35, "or if it was told");
    Due.due("witness(0, false)", x.witness(0, false), -2);
    Due.due("witness(0, true)", x.witness(0, true), -2);
    Due.due("about(4)", x.about(4), 1);
    Due.due("witness(19, true)", x.witness(19, true), 2);
    Due.due("witness(19, true)", x.witness(19, true), -2);
  }

  private static void whichPromised() {
    Sentences.promise(36, "WHICH: MARKS (bits)");
    MarkOffice x = Offices.of(0, 1, 0, 1, 0, 0, 0, 1);
    x.witness(0, true);
    Due.due("which()", x.which(), 2 | 8 | 128);
    x.witness(1, true);
    Due.due("which(), none fits", x.which(), 0);
    Due.due("which() without marks", Offices.of().which(), 0);
    Sentences.promise(37, "WAYS it fits by (bits)");
    MarkOffice y = Offices.of(1, 0);
    y.witness(0, true);
    Due.due("ways(0)", y.ways(0), 1);
    Due.due("ways(1), none", y.ways(1), 0);
    y.witness(-1, true);
    y.witness(6, true);
    Due.due("ways(0)", y.ways(0), 1 << 7);
    Sentences.promise(37, "NONE for others");
    for (int mark : new int[] {-1, 2, 8, 32, Offices.LOWEST, Offices.HIGHEST}) {
      Due.due("ways(" + mark + ")", y.ways(mark), -1);
    }
  }

  private static void askPromised() {
    Sentences.promise(38, "WHAT TO ASK: the stroke");
    MarkOffice x = Offices.of(0, ALL);
    Due.due("ask()", x.ask(), 0);
    x.witness(0, true);
    Sentences.promise(38, "NONE: none");
    Due.due("ask(), one fits", x.ask(), -1);
    Due.due("ask() without marks", Offices.of().ask(), -1);
    // MARKS now, not as registered.
    MarkOffice y = Offices.of(0, 0);
    y.add(1, 12);
    y.witness(12, true);
    Due.due("ask(), one fits now", y.ask(), -1);
  }

  private static void gamePromised() {
    Sentences.promise(39, "A GAME: 1 the one who begins wins, 0 the other one");
    MarkOffice x = new MarkOffice();
    Due.due("game(0, 1)", x.game(0, 1), 1);
    Due.due("game(0, 3)", x.game(0, 3), 0);
    Due.due("game(0, stroke 19)", x.game(0, 1 << 19), 1);
    Sentences.promise(39, "NONE for others (bits;");
    for (int set : NO_SETS) {
      Due.due("game(" + set + ", 0)", x.game(set, 0), -1);
      Due.due("game(0, " + set + ")", x.game(0, set), -1);
    }
    Due.due("game(2^20, 2^20)", x.game(1 << 20, 1 << 20), -1);
    Sentences.promise(39, "10 free at most)");
    Due.due("game(0, ten)", x.game(0, 1023 << 10), PlainGame.firstWins(0, 1023 << 10) ? 1 : 0);
    Due.due("game(0, eleven)", x.game(0, 2047 << 9), -1);
    Due.due("game(all, eleven)", x.game(ALL, 2047 << 9), -1);
  }

  private static void playPromised() {
    Sentences.promise(40, "A PLAY: the stroke");
    MarkOffice x = new MarkOffice();
    Due.due("play(0, 1)", x.play(0, 1), 0);
    Due.due("play(0, stroke 19)", x.play(0, 1 << 19), 19);
    Sentences.promise(40, "NONE: none wins");
    Due.due("play(0, 0)", x.play(0, 0), -1);
    Due.due("play(0, 3)", x.play(0, 3), -1);
    Due.due("play(1, 1)", x.play(1, 1), -1);
    Sentences.promise(40, ", and for others");
    for (int set : NO_SETS) {
      Due.due("play(" + set + ", 1)", x.play(set, 1), -1);
      Due.due("play(0, " + set + ")", x.play(0, set), -1);
    }
    Due.due("play(0, eleven)", x.play(0, 2047), -1);
    Due.due("play(1, eleven)", x.play(1, 2047), -1);
    int ten = PlainGame.lowestWin(0, 1023 << 10);
    Due.due("play(0, ten)", x.play(0, 1023 << 10), ten);
  }

  private static void saidPromised() {
    Sentences.promise(42, "SAID: how many there are");
    MarkOffice x = Offices.of(7, 0);
    Due.due("said(0, 0, 0)", x.said(0, 0, 0), 1);
    Due.due("said(1, 19, 10)", x.said(1, 19, 10), 2);
    Due.due("said(1, 19, 10), the same", x.said(1, 19, 10), 3);
    Sentences.promise(42, "(mark NONE: none any more)");
    Due.due("said(-1, 99, 99)", x.said(-1, 99, 99), 0);
    Due.due("about(5)", x.about(5), 0);
    Due.due("said(-1, 0, 0)", x.said(-1, 0, 0), 0);
    Sentences.promise(42, "-2 for others (0 .. 10)");
    int[][] others = {{2, 0, 3}, {-2, 0, 3}, {8, 0, 3}, {0, -1, 3}, {0, 20, 3}, {0, 32, 3},
        {0, 0, -1}, {0, 0, 11}, {Offices.LOWEST, 0, 3}, {Offices.HIGHEST, 0, 3},
        {0, Offices.HIGHEST, 3}, {0, 0, Offices.HIGHEST}, {0, 0, Offices.LOWEST}};
    for (int[] other : others) {
      Due.due("said(" + other[0] + ", " + other[1] + ", " + other[2] + ")",
          x.said(other[0], other[1], other[2]), -2);
    }
    Due.due("about(5)", x.about(5), 0);
    Sentences.promise(42, ", or if there are 8");
    for (int said = 1; said <= 8; said++) {
      Due.due("said(0, 0, 3)", x.said(0, 0, 3), said);
    }
    Due.due("said(0, 0, 3), a ninth", x.said(0, 0, 3), -2);
    Due.due("said(2, 0, 3), a ninth of no MARK", x.said(2, 0, 3), -2);
    Due.due("about(5)", x.about(5), 8);
    Due.due("said(-1, 0, 0)", x.said(-1, 0, 0), 0);
    Due.due("said(0, 0, 3)", x.said(0, 0, 3), 1);
  }

  private static void lawsPromised() {
    Sentences.promise(43, "WHOSE LAW (bits)");
    MarkOffice x = Offices.of(7);
    Due.due("whose() without texts", x.whose(), 0);
    Due.told(x, "wears 1;");
    Due.told(x, "wears 2;");
    Due.told(x, "wears 1;");
    Due.told(x, "wears 11;");
    x.said(0, 0, 1);
    Due.due("whose()", x.whose(), 5);
    x.said(-1, 0, 0);
    x.said(0, 0, 10);
    Due.due("whose(), wears is held at 10", x.whose(), 8);
    x.said(0, 0, 9);
    Due.due("whose(), none", x.whose(), 0);
    Sentences.promise(44, "RICHEST");
    Due.due("richest() of eight", Offices.of(0, 1, 1, 1, 1, 1, 1, 3).richest(), 7);
    Sentences.promise(44, "NONE: none");
    Due.due("richest()", Offices.of(0).richest(), -1);
    Due.due("richest() without marks", Offices.of().richest(), -1);
    Sentences.promise(45, "MOST WORN");
    MarkOffice y = Offices.of(0, 0, 0, 0, 0, 0, 0, 0);
    y.add(7, 3);
    Due.due("worn() of eight", y.worn(), 7);
    Sentences.promise(45, "NONE: none");
    y.undo();
    Due.due("worn()", y.worn(), -1);
    Due.due("worn() without marks", Offices.of().worn(), -1);
  }

  private static void ledgerPromised() {
    Sentences.promise(46, "BY THE BOOK");
    MarkOffice x = Offices.of(1);
    for (int what = 0; what < 4; what++) {
      Due.due("ledger(" + what + ") of an empty BOOK", x.ledger(what), 0);
    }
    x.rub(0, 0);
    x.renew(0);
    Due.due("ledger(1)", x.ledger(1), 1);
    Due.due("ledger(2)", x.ledger(2), 1);
    Due.due("ledger(0)", x.ledger(0), 0);
    Due.due("ledger(3)", x.ledger(3), 0);
    Sentences.promise(46, "-2 for others (0 .. 3)");
    for (int what : new int[] {-1, 4, Offices.LOWEST, Offices.HIGHEST}) {
      Due.due("ledger(" + what + ")", x.ledger(what), -2);
    }
  }
}
