/** Part II of the terms but sums: texts, tokens, clauses, shapes, faults, which text rules, played. */
final class BoundsOfTexts {
  private static final int FRAME = 2931;

  private BoundsOfTexts() {}

  static void look() {
    texts();
    blanks();
    lettersAndDigits();
    signs();
    clauses();
    lawsOnce();
    deeds();
    shapes();
    parts();
    openParts();
    firstAndLeast();
    cannotStand();
    wrongNumbers();
    ninthOpen();
    ninthIsOpenNoMore();
    otherFaults();
    rules();
    held();
    played();
    cannotBe();
  }

  private static void texts() {
    Sentences.terms("TEXTS 0 .. 3");
    MarkOffice x = new MarkOffice();
    for (int text = 0; text < 4; text++) {
      Due.due("text()", Due.told(x, "fee 1;"), text);
    }
    Due.due("text(), a fifth", Due.told(x, "fee 1;"), -1);
    Due.due("by(3)", x.by(3), true);
    Due.due("by(4)", x.by(4), false);
    Sentences.terms("of up to 300 bytes");
    Offices.good("fee 1" + "+1".repeat(147) + ";");
    Offices.good(" ".repeat(300));
    for (String last : new String[] {"x", "1", "<", ">", "=", "fee"}) {
      Offices.fault(" ".repeat(300 - last.length()) + last, 1, last.equals("fee") ? 300 : 299);
    }
    Offices.fault("fee 1" + " ".repeat(295), 1, 300);
    Offices.good("");
    // As many TOKENS as bytes.
    Offices.fault("(".repeat(300), 1, 0);
    Offices.fault("fee" + "(".repeat(8) + "1" + "+1".repeat(144), 1, 300);
  }

  private static void blanks() {
    Sentences.terms("TOKENS, blanks (32, 10) aside");
    Offices.good("\n fee \n 1\n;\n ");
    Offices.good(" ");
    Offices.good("\n");
    for (char sign : new char[] {0, 9, 11, 12, 13, 31, 33, 127, 128, 160, 255}) {
      Offices.fault("fee 1" + sign + ";", 1, 5);
    }
    // A blank parts what would be one TOKEN.
    Offices.fault("f ee 1;", 1, 0);
    Offices.fault("fee 1 1;", 1, 6);
  }

  private static void lettersAndDigits() {
    Sentences.terms("letters a .. z, A .. Z one behind the other (one TOKEN)");
    for (String letter : new String[] {"a", "z", "A", "Z"}) {
      Offices.fault("fee" + letter + " 1;", 1, 0);
      Offices.fault("fee year" + letter + ";", 1, 4);
    }
    for (String none : new String[] {"@", "[", "`", "{"}) {
      Offices.fault("fee" + none + "1;", 1, 3);
    }
    Offices.good("fee1;");
    Offices.fault("FEE 1;", 1, 0);
    Sentences.terms("digits likewise");
    Offices.good("fee 12;");
    Offices.fault("fee 1 2;", 1, 6);
    Offices.fault("fee 1:;", 1, 5);
    Offices.good("fee 1/2;");
    Offices.good("add19to7;");
    Sentences.terms("(NUMBERS, 0 .. 9999)");
    Offices.good("fee 0;");
    Offices.good("fee 9999;");
    Offices.good("fee 00009999;");
    Offices.fault("fee 10000;", 2, 4);
    // Such as would wrap around to something small.
    Offices.fault("fee 4294967296;", 2, 4);
    Offices.fault("fee 18446744073709551617;", 2, 4);
    Offices.fault("fee " + "9".repeat(290) + ";", 2, 4);
  }

  private static void signs() {
    Sentences.terms("<= >= < > = # + - * / ( ) ;");
    Offices.asked("1<=1", true);
    Offices.asked("1>=1", true);
    Offices.asked("1<1", false);
    Offices.asked("1>1", false);
    Offices.asked("1=1", true);
    Offices.asked("1#1", false);
    Offices.fee("(9+7-4)*6/8", 9);
    for (char none = 33; none < 127; none++) {
      if ("<>=#+-*/();".indexOf(none) < 0 && !Character.isLetterOrDigit(none)) {
        Offices.fault("fee 1" + none + "1;", 1, 5);
      }
    }
    Sentences.terms("(the longest)");
    Offices.fault("fee if 1< =1 then 1 else 2 end;", 1, 10);
    Offices.fault("fee if 1> =1 then 1 else 2 end;", 1, 10);
    Offices.fault("fee if 1=<1 then 1 else 2 end;", 1, 9);
    Offices.fault("fee if 1<>1 then 1 else 2 end;", 1, 9);
    Offices.fault("fee if 1<==1 then 1 else 2 end;", 1, 10);
    // At the end of the tape there is nothing more to it.
    MarkOffice x = new MarkOffice();
    Due.put(x, "fee if 1<=");
    x.end(9);
    x.text();
    Due.due("fault(1) of a tape that ends with <", x.fault(1), 9);
  }

  private static void clauses() {
    Sentences.terms("{CLAUSE}, 24 at most");
    Offices.good("");
    Offices.good("year 1;");
    Offices.good("year 1;".repeat(24));
    Offices.fault("year 1;".repeat(25), 6, 168);
    MarkOffice x = Offices.under("year 1;".repeat(24));
    Due.due("played(0)", x.played(0), -1);
    Due.due("YEAR", x.is(0), 24);
  }

  private static void lawsOnce() {
    Sentences.terms("wears SUM ; or fee SUM ; (each once)");
    MarkOffice x = Offices.under("wears 9;fee 8;", 1);
    Due.due("wears(0, 0)", x.wears(0, 0), 9);
    Due.due("of(0, 7)", x.of(0, 7), 8);
    Offices.good("fee 8;wears 9;");
    Offices.fault("wears 1;wears 1;", 4, 8);
    Offices.fault("fee 1;fee 1;", 4, 6);
    Offices.fault("wears;", 1, 5);
    Offices.fault("fee 1", 1, 5);
  }

  private static void deeds() {
    Sentences.terms("draw SHAPE ; (a MARK of it)");
    MarkOffice x = Offices.under("draw stroke 19;", 1);
    Due.due("played(0)", x.played(0), -1);
    Due.due("of(1, 1)", x.of(1, 1), 1 << 19);
    Sentences.terms("or add NUMBER to NUMBER ; or rub NUMBER of NUMBER ; (stroke, MARK)");
    MarkOffice y = Offices.under("add 5 to 1;rub 0 of 2;add 19 to 7;", 1, 1, 1, 1, 1, 1, 1, 1);
    Due.due("played(0)", y.played(0), -1);
    Due.due("of(1, 0)", y.of(1, 0), 1 | 1 << 5);
    Due.due("of(2, 0)", y.of(2, 0), 0);
    Due.due("of(7, 0)", y.of(7, 0), 1 | 1 << 19);
    Offices.fault("add 1 of 1;", 1, 6);
    Offices.fault("rub 1 to 1;", 1, 6);
    Sentences.terms("or renew NUMBER ; or year NUMBER ;");
    MarkOffice z = Offices.under("year 2;renew 1;", 0, 0);
    z.add(1, 3);
    Due.due("played(0)", z.played(0), -1);
    Due.due("YEAR", z.is(0), 2);
    Due.due("of(1, 0)", z.of(1, 0), 0);
    Offices.fault("renew;", 1, 5);
    Offices.fault("year;", 1, 4);
    Sentences.terms(" or ");
    Offices.fault("size 1;", 1, 0);
    Offices.fault("to 1;", 1, 0);
    Offices.fault(";", 1, 0);
  }

  private static void shapes() {
    Sentences.terms("SHAPE: PART {with PART (strokes of both)");
    Offices.shape("stroke 3", 8);
    Offices.shape("stroke 3 with stroke 4", 24);
    Offices.shape("stroke 3 with stroke 3", 8);
    Sentences.terms("or less PART (without its strokes)}");
    Offices.shape("bar 0 less stroke 1", 1);
    Offices.shape("stroke 1 less stroke 1", 0);
    Offices.shape("stroke 0 less stroke 1", 1);
    Sentences.terms(", from the left");
    Offices.shape("bar 0 less stroke 0 with stroke 0", 3);
    Offices.shape("stroke 0 with stroke 1 less stroke 0", 2);
    Offices.shape("bar 0 less (stroke 0 with stroke 1)", 0);
    Offices.fault("draw frame with;", 1, 15);
    Offices.fault("draw with frame;", 1, 5);
    Offices.fault("draw frame frame;", 1, 11);
  }

  private static void parts() {
    Sentences.terms("PART: stroke NUMBER (0 .. 19)");
    Offices.shape("stroke 0", 1);
    Offices.shape("stroke 19", 1 << 19);
    Offices.fault("draw stroke 20;", 2, 12);
    Sentences.terms("bar NUMBER (both strokes of a row 0 .. 2)");
    for (int row = 0; row < 3; row++) {
      Offices.shape("bar " + row, 3 << 2 * row);
    }
    Offices.fault("draw bar 3;", 2, 9);
    Sentences.terms("post NUMBER (both of a column 0 .. 2)");
    for (int column = 0; column < 3; column++) {
      Offices.shape("post " + column, 1 << 6 + column | 1 << 9 + column);
    }
    Offices.fault("draw post 3;", 2, 10);
    Sentences.terms("frame (the eight around)");
    Offices.shape("frame", FRAME);
    Sentences.terms("turn PART (WAY 1), tip PART (WAY 4), ( SHAPE )");
    Offices.shape("turn stroke 0", 1 << 8);
    Offices.shape("tip stroke 0", 2);
    Offices.shape("(stroke 0)", 1);
    Offices.shape("turn turn turn turn stroke 0", 1);
    Offices.shape("tip turn stroke 0", 1 << 6);
    Offices.shape("turn tip stroke 0", 1 << 11);
    Offices.fault("draw ();", 1, 6);
    Offices.fault("draw turn;", 1, 9);
    Offices.fault("draw tip with;", 1, 9);
  }

  private static void openParts() {
    Sentences.terms("(turn, tip are open till their PART is whole.)");
    // Of one PART alone: what is joined to it isn't turned, nor is it inside.
    Offices.shape("turn stroke 0 with stroke 0", 1 << 8 | 1);
    Offices.shape("tip (stroke 0 with stroke 8) less stroke 0", 2 | 1 << 6);
    String eight = "turn turn turn turn tip tip tip tip ";
    Offices.good("draw " + eight + "frame with " + eight + "frame;");
    Offices.fault("draw " + eight + "turn frame;", 3, 41);
    Offices.fault("draw " + eight + "(frame);", 3, 41);
    Offices.good("draw turn frame" + " with tip frame".repeat(12) + ";");
  }

  private static void firstAndLeast() {
    Sentences.terms("FAULTS, the first as TOKENS are come to");
    Offices.fault("year 0;year 61;!", 2, 5);
    Offices.fault("year 1;year 61;year 0;", 2, 12);
    Offices.fault("fee which+10000;", 5, 4);
    Offices.fault("fee 10000+which;", 2, 4);
    Sentences.terms(", at the TOKEN's first byte");
    Offices.fault("fee \n\n  names;", 1, 8);
    Offices.fault("fee 000010000;", 2, 4);
    Offices.fault("fee 1<=2;", 1, 5);
    Sentences.terms("(of the end at the length)");
    Offices.fault("fee", 1, 3);
    Offices.fault("fee 1 \n ", 1, 8);
    Offices.fault("fee 1" + "+1".repeat(147) + " ", 1, 300);
    Sentences.terms(", of one the least");
    // 1 ahead of 2, 3, 5; 4 ahead of 6; 1 ahead of 6.
    Offices.fault("fee 1 10000;", 1, 6);
    Offices.fault("fee ((((((((1(", 1, 13);
    Offices.fault("fee 1 which;", 1, 6);
    Offices.fault("fee 1;" + "year 1;".repeat(23) + "fee 1;", 4, 167);
    Offices.fault("year 1;".repeat(24) + "x", 1, 168);
  }

  private static void cannotStand() {
    Sentences.terms("1 it can't stand there, or is none");
    Offices.fault("fee 1;;", 1, 6);
    Offices.fault("fee (1;", 1, 6);
    Offices.fault("fee 1);", 1, 5);
    Offices.fault("fee +1;", 1, 4);
    Offices.fault("fee if 1 then 2 else 3 end;", 1, 9);
    Offices.fault("fee if (1<2) then 2 else 3 end;", 1, 9);
    Offices.fault("fee if 1<2<3 then 2 else 3 end;", 1, 10);
    Offices.fault("fee if 1<2 then 2 end;", 1, 18);
    Offices.fault("fee if 1<2 then 2 else 3;", 1, 24);
    Offices.fault("fee not 1<2;", 1, 4);
    Offices.fault("year 1+1;", 1, 6);
    Offices.fault("draw which;", 1, 5);
    Offices.fault("add -1 to 0;", 1, 4);
    Offices.fault("fee nothing;", 1, 4);
    Offices.fault("fee !;", 1, 4);
  }

  private static void wrongNumbers() {
    Sentences.terms("2 a NUMBER that isn't one of those told (above 9999;");
    Offices.good("fee 9999;wears 9999;");
    Offices.fault("fee 10000;", 2, 4);
    Offices.fault("wears 1+10000;", 2, 8);
    Sentences.terms("strokes 0 .. 19, ");
    Offices.good("draw stroke 0 with stroke 19;add 0 to 0;add 19 to 0;rub 0 of 0;rub 19 of 0;");
    Offices.fault("draw stroke 20;", 2, 12);
    Offices.fault("add 20 to 0;", 2, 4);
    Offices.fault("rub 20 of 0;", 2, 4);
    Sentences.terms("rows and columns 0 .. 2, ");
    Offices.good("draw bar 0 with bar 2 with post 0 with post 2;");
    Offices.fault("draw bar 3;", 2, 9);
    Offices.fault("draw post 3;", 2, 10);
    Sentences.terms("MARKS 0 .. 7, ");
    Offices.good("add 0 to 7;rub 0 of 7;renew 7;renew 0;");
    Offices.fault("add 0 to 8;", 2, 9);
    Offices.fault("rub 0 of 8;", 2, 9);
    Offices.fault("renew 8;", 2, 6);
    Sentences.terms("YEARS 1 .. 60)");
    Offices.good("year 1;year 60;");
    Offices.fault("year 0;", 2, 5);
    Offices.fault("year 61;", 2, 5);
    Offices.fault("year 99999;", 2, 5);
  }

  private static void ninthOpen() {
    Sentences.terms("3 the 9th of ( not size has turn tip if and - (of one ONE) that are open around one another (at it)");
    Offices.good("fee ((((((((1))))))));");
    Offices.fault("fee (((((((((1)))))))));", 3, 12);
    String nots = "fee if not not not not not not not ";
    Offices.good(nots + "1<2 then 1 else 2 end;");
    Offices.fault(nots + "not 1<2 then 1 else 2 end;", 3, 35);
    Offices.good("fee size has size has size has size has 1;");
    Offices.fault("fee size has size has size has size has size 1;", 3, 40);
    Offices.fault("fee has size has size has size has size has 1;", 3, 40);
    Offices.fault("draw ((((((((turn frame))))))));", 3, 13);
    Offices.fault("draw ((((((((tip frame))))))));", 3, 13);
    Offices.fault("draw (((((((((frame)))))))));", 3, 13);
    Offices.good("draw ((((((((frame))))))));");
    Offices.fault("fee ((((((((if 1<2 then 1 else 2 end))))))));", 3, 12);
    Offices.good("fee (((((((if 1<2 then 1 else 2 end)))))));");
    Offices.good("fee --------1;");
    Offices.fault("fee ---------1;", 3, 12);
    Offices.fault("wears ((((((((-which))))))));", 3, 14);
  }

  private static void ninthIsOpenNoMore() {
    // A - between two isn't of one ONE, and what is closed is open no more.
    Offices.good("fee ((((((((1-1-1))))))))-1;");
    Offices.good("fee ((((((((1))))))))*((((((((1))))))));");
    Offices.good("fee size 1+size 1+size 1+size 1+size 1+size 1+size 1+size 1+size 1;");
    Offices.good("fee -1*-1*-1*-1*-1*-1*-1*-1*-1;");
    Offices.good("fee if " + "not 1<2 or ".repeat(9) + "1<2 then 1 else 2 end;");
    Offices.good("fee " + "if 1<2 then 1 else 2 end+".repeat(9) + "1;");
    // An if is open to its end: in what it asks, in both its SUMS.
    Offices.fault("fee if --------1<2 then 1 else 2 end;", 3, 14);
    Offices.fault("fee if 1<--------2 then 1 else 2 end;", 3, 16);
    Offices.fault("fee if 1<2 then --------1 else 2 end;", 3, 23);
    Offices.fault("fee if 1<2 then 1 else --------2 end;", 3, 30);
    Offices.good("fee if 1<2 then 1 else 2 end+--------1;");
    // A not is open over both SUMS of its ASK.
    Offices.fault("fee if not 1<-------2 then 1 else 2 end;", 3, 19);
    Offices.good("fee if not 1<2 and 1<-------2 then 1 else 2 end;");
    Offices.fault("fee if not if not if not if not if not 1<2 then 1 else 2 end", 3, 32);
  }

  private static void otherFaults() {
    Sentences.terms("4 wears, fee for the second time (at it)");
    Offices.fault("wears 1;fee 1;wears 1;", 4, 14);
    Offices.fault("fee 1;wears 1;fee", 4, 14);
    Sentences.terms("5 a NAME that isn't of that CLAUSE (at it)");
    Offices.fault("wears 1+pieces;", 5, 8);
    Offices.fault("fee 1+which;", 5, 6);
    Offices.fault("wears 1;fee which;", 5, 12);
    Offices.fault("fee 1;wears pieces;", 5, 12);
    Offices.good("fee pieces;wears which;");
    Sentences.terms("6 the 25th CLAUSE (at its first TOKEN)");
    String most = "renew 0;".repeat(24);
    Offices.good(most);
    Offices.fault(most + "  renew", 6, 194);
    Offices.fault(most + "fee 1;", 6, 192);
    String laws = "fee 1;wears 1;" + "renew 0;".repeat(22);
    Offices.good(laws);
    Offices.fault(laws + "year 1;", 6, laws.length());
  }

  private static void rules() {
    Sentences.terms("THE TEXT (told; at first none) rules");
    MarkOffice x = Offices.of(7);
    Due.due("about(2), at first", x.about(2), -1);
    Due.told(x, "fee 11;wears 4;");
    Due.due("about(2), a text that isn't told to rule", x.about(2), -1);
    Due.due("of(0, 7), none rules", x.of(0, 7), 3);
    x.by(0);
    Due.due("of(0, 7)", x.of(0, 7), 11);
    Due.due("wears(0, 0)", x.wears(0, 0), 4);
    Due.told(x, "fee 12;");
    Due.due("of(0, 7), the first rules yet", x.of(0, 7), 11);
  }

  private static void held() {
    Sentences.terms("wears (of 10): 0 at least, 10 at most; without: 3");
    int[][] wears = {{-1000000, 0}, {-1, 0}, {0, 0}, {1, 1}, {9, 9}, {10, 10}, {11, 10}, {1000000, 10}};
    for (int[] held : wears) {
      Offices.wears(held[0] / 1000 + "*1000+" + held[0] % 1000, 0, held[1]);
    }
    Due.due("wears without a law", Offices.under("fee 9;", 1).wears(0, 0), 3);
    Due.due("wears without a text", Offices.of(1).wears(0, 0), 3);
    Sentences.terms("fee: 0 at least, 99 at most; without: how many strokes it has now");
    int[][] fees = {{-1000000, 0}, {-1, 0}, {0, 0}, {1, 1}, {98, 98}, {99, 99}, {100, 99}, {1000000, 99}};
    for (int[] held : fees) {
      Offices.fee(held[0] / 1000 + "*1000+" + held[0] % 1000, held[1]);
    }
    MarkOffice x = Offices.under("wears 9;", 7, 0, Offices.ALL);
    x.rub(0, 1);
    Due.due("fee without a law, now", x.of(0, 7), 2);
    Due.due("fee of no strokes", x.of(1, 7), 0);
    Due.due("fee of all", x.of(2, 7), 20);
  }

  private static void played() {
    Sentences.terms("PLAYED by a TEXT: its CLAUSES but laws, in their order, as by hand");
    MarkOffice x = Offices.of(1);
    Due.told(x, "fee 50;draw bar 1;add 5 to 1;year 2;wears 0;rub 0 of 0;renew 0;");
    Due.due("played(0)", x.played(0), -1);
    Due.due("FUND, its laws don't rule: 1 and 3 strokes, two YEARS", x.is(2) >= 5 && x.is(2) <= 8, true);
    Due.due("about(2)", x.about(2), -1);
    Due.due("about(3), a STEP each, but for draw", x.about(3), 5);
    Due.due("ledger(0)", x.ledger(0), 1);
    Due.due("ledger(1)", x.ledger(1), 1);
    Due.due("ledger(2)", x.ledger(2), 1);
    // In their order: the other way round the second couldn't be.
    MarkOffice y = Offices.under("add 1 to 0;rub 1 of 0;", 0);
    Due.due("played(0)", y.played(0), -1);
    Due.due("played(0) of laws alone", Offices.under("fee 1;wears 1;").played(0), -1);
    Due.due("played(0) of nothing", Offices.under("").played(0), -1);
  }

  private static void cannotBe() {
    Sentences.terms("one that can't be ends it");
    MarkOffice x = Offices.under("add 1 to 0;add 1 to 0;add 2 to 0;", 0);
    Due.due("played(0)", x.played(0), 1);
    Due.due("of(0, 0), the third isn't played", x.of(0, 0), 2);
    Due.due("add, no such MARK", Offices.under("add 0 to 1;", 0).played(0), 0);
    Due.due("rub, it hasn't it", Offices.under("rub 0 of 0;", 0).played(0), 0);
    Due.due("rub, no such MARK", Offices.under("rub 0 of 1;", 1).played(0), 0);
    Due.due("renew, none is other", Offices.under("renew 0;", 0).played(0), 0);
    Due.due("renew, no such MARK", Offices.under("renew 1;", 0).played(0), 0);
    MarkOffice full = Offices.under("draw frame;draw frame;", 0, 0, 0, 0, 0, 0, 0);
    Due.due("draw, there are 8", full.played(0), 1);
    Sentences.terms("(of so many YEARS those that can pass do)");
    MarkOffice y = Offices.under("year 2;year 1;");
    Offices.pass(y, 9997);
    Due.due("played(0), two can pass", y.played(0), 1);
    Due.due("YEAR", y.is(0), 9999);
    Due.due("played(0), none can pass", y.played(0), 0);
    y.undo();
    Due.due("played(0), one of two can pass", y.played(0), 0);
    Due.due("YEAR", y.is(0), 9999);
    Sentences.terms(": its number among all CLAUSES (from 0)");
    MarkOffice z = Offices.under("fee 1;wears 1;add 0 to 0;rub 1 of 0;", 0);
    Due.due("played(0)", z.played(0), 3);
    MarkOffice last = Offices.under("fee 1;" + "renew 0;".repeat(23), 0);
    Due.due("played(0)", last.played(0), 1);
    Sentences.terms("what was done stays");
    Due.due("of(0, 0)", z.of(0, 0), 1);
    Due.due("about(3)", z.about(3), 1);
    Due.due("book(-1, 0)", z.book(-1, 0), 1);
  }
}
