/** Promises 3 to 7: the tape, texts and their faults, which text rules. */
public final class TextsTest {
  public static void main(String[] args) {
    tape();
    faultOfNone();
    atMostFour();
    faultsEmptyTheTape();
    nothingIsLeftOfAFault();
    bytesBehindTheEnd();
    wholeTapes();
    goodTexts();
    cannotStand();
    wrongNumbers();
    tooManyOpen();
    secondLaws();
    wrongNames();
    tooManyClauses();
    theFirstAndTheLeast();
    rules();
    Due.close("TextsTest");
  }

  private static void tape() {
    MarkOffice x = new MarkOffice();
    for (int i = 1; i <= 15; i++) {
      Due.due("feed " + i, x.feed(0, 0, 0, 0, 0), 20 * i);
    }
    Due.due("feed beyond 300", x.feed(0, 0, 0, 0, 0), -1);
    Due.due("about(6)", x.about(6), 300);
    Due.due("end(301)", x.end(301), -1);
    Due.due("end(-1)", x.end(-1), -1);
    Due.due("end(300)", x.end(300), 300);
    Due.due("end(281)", x.end(281), 281);
    Due.due("feed to 301", x.feed(0, 0, 0, 0, 0), -1);
    Due.due("about(6) as ahead", x.about(6), 281);
    Due.due("end(280)", x.end(280), 280);
    Due.due("feed to 300", x.feed(0, 0, 0, 0, 0), 300);
    Due.due("end(0)", x.end(0), 0);
    Due.due("end(1) of none", x.end(1), -1);
    // The highest byte of a first: "fee ", "1;  ", and "~" is the 20th byte.
    x.feed(0x66656520, 0x313b2020, 0x20202020, 0x20202020, 0x2020207e);
    Due.due("text()", x.text(), -1);
    Due.due("fault(1)", x.fault(1), 19);
    x.feed(0x66656520, 0x313b2020, 0x20202020, 0x20202020, 0x2020207e);
    x.end(19);
    Due.due("text() of the first 19", x.text(), 0);
    // Bytes above 127 are bytes, too.
    x.feed(0xffffffff, -1, -1, -1, -1);
    Due.due("text()", x.text(), -1);
    Due.due("fault(0)", x.fault(0), 1);
    Due.due("fault(1)", x.fault(1), 0);
  }

  private static void faultOfNone() {
    MarkOffice x = new MarkOffice();
    Due.due("ahead of any: fault(0)", x.fault(0), -1);
    Due.due("ahead of any: fault(1)", x.fault(1), -1);
    Due.due("the empty text", x.text(), 0);
    Due.due("without: fault(0)", x.fault(0), 0);
    Due.due("without: fault(1)", x.fault(1), -1);
    Due.due("fault(2)", x.fault(2), -1);
    Due.due("fault(-1)", x.fault(-1), -1);
  }

  private static void atMostFour() {
    MarkOffice x = new MarkOffice();
    for (int i = 0; i < 4; i++) {
      Due.due("text " + i, Due.told(x, "fee " + i + ";"), i);
      Due.due("the tape is empty", x.about(6), 0);
    }
    Due.due("a fifth", Due.told(x, "fee 4;"), -1);
    Due.due("its tape stays", x.about(6), 6);
    Due.due("a fifth with a fault isn't read", Due.told(x, "fee"), -1);
    Due.due("its tape stays", x.about(6), 3);
    Due.due("the latest that was read had none", x.fault(0), 0);
    Due.due("about(1)", x.about(1), 4);
  }

  private static void faultsEmptyTheTape() {
    MarkOffice x = new MarkOffice();
    Due.due("a fault", Due.told(x, "fee;"), -1);
    Due.due("the tape is empty", x.about(6), 0);
    Due.due("about(1)", x.about(1), 0);
    Due.due("a text behind it", Due.told(x, "fee 1;"), 0);
    Due.due("fault(0)", x.fault(0), 0);
  }

  private static void nothingIsLeftOfAFault() {
    MarkOffice x = new MarkOffice();
    x.mark(7);
    Due.told(x, "wears 9;fee 50;year 1;add 9 to 0;add 10 to 0;x");
    Due.due("a text behind it", Due.told(x, "year 2;"), 0);
    x.by(0);
    Due.due("no wears of the other", x.wears(0, 0), 3);
    Due.due("no fee of the other", x.of(0, 7), 3);
    Due.due("played(0)", x.played(0), -1);
    Due.due("no clause of the other", x.is(0), 2);
    Due.due("no stroke of the other", x.of(0, 0) & 3 << 9, 0);
    Due.told(x, "wears 1+1+1+1+1+1+1+1;fee 7+x;");
    Due.due("a text behind it", Due.told(x, "fee 20;wears 6;"), 1);
    x.by(1);
    Due.due("its wears", x.wears(0, 0), 6);
    Due.due("its fee", x.of(0, 7), 20);
    for (int i = 0; i < 4; i++) {
      Due.due("a long one", Due.told(x, "fee 1" + "+1".repeat(140) + ";x"), -1);
    }
    Due.due("a text behind them", Due.told(x, "fee 1" + "+1".repeat(30) + ";"), 2);
    x.by(2);
    Due.due("its fee", x.of(0, 7), 31);
  }

  private static void wholeTapes() {
    for (String sign : new String[] {"(", ";", "1", "a", " ", "!"}) {
      fault(sign.repeat(300), sign.equals(" ") ? 0 : 1, sign.equals(" ") ? -1 : 0);
    }
    good("fee 1" + "+1".repeat(147) + ";");
    fault("fee 1" + "+1".repeat(147) + "+", 1, 300);
    fault("fee 1" + " ".repeat(295), 1, 300);
    good("draw frame" + " with bar 1".repeat(26) + ";   ");
  }

  /** What end cuts off is no part of the last token. */
  private static void bytesBehindTheEnd() {
    cut("fees 1;", 3, 1, 3);
    cut("year 61;", 6, 1, 6);
    cut("fee if 1<=2", 9, 1, 9);
    cut("fee 1;fee", 6, 0, -1);
    cut("fee 1; ;", 7, 0, -1);
  }

  private static void cut(String text, int length, int fault, int place) {
    MarkOffice x = new MarkOffice();
    Due.put(x, text);
    x.end(length);
    Due.due("text() of a part of " + text, x.text(), fault == 0 ? 0 : -1);
    Due.due("fault(0) of a part of " + text, x.fault(0), fault);
    Due.due("fault(1) of a part of " + text, x.fault(1), place);
  }

  private static void good(String text) {
    fault(text, 0, -1);
  }

  private static void fault(String text, int fault, int place) {
    MarkOffice x = new MarkOffice();
    Due.due("text() of " + text, Due.told(x, text), fault == 0 ? 0 : -1);
    Due.due("fault(0) of " + text, x.fault(0), fault);
    Due.due("fault(1) of " + text, x.fault(1), place);
    Due.due("about(1) of " + text, x.about(1), fault == 0 ? 1 : 0);
  }

  private static void goodTexts() {
    good("");
    good(" \n ");
    good("fee 1;wears 2;");
    good("fee\n00001\n;");
    good("wears 1+2-3*4/5;");
    good("wears(year-number)*strokes/ends+fund-which;");
    good("fee year+number+strokes+ends+fund+pieces;");
    good("fee if 1<2 and 2<=3 or not 3>4 and 4>=5 then 1 else if 1=2 or 1#2 then 3 else 4 end end;");
    good("fee - - -1 - -1;");
    good("fee size 0+has 1*size(has 2);");
    good("fee if(1)<(2)then 1 else 2 end;");
    good("draw frame with stroke 19 less bar 2 less post 2 with(turn tip stroke 0);");
    good("add 19 to 7;rub 0 of 0;renew 7;year 1;year 60;");
    good("add19to7;rub0of0;");
    good("wears 9999;");
  }

  private static void cannotStand() {
    fault("fee", 1, 3);
    fault("fee 1", 1, 5);
    fault("fee 1 \n", 1, 7);
    fault(";", 1, 0);
    fault("fee 1;;", 1, 6);
    fault("Fee 1;", 1, 0);
    for (String letter : new String[] {"a", "z", "A", "Z"}) {
      fault("fee" + letter + " 1;", 1, 0);
    }
    for (String sign : new String[] {"@", "[", "`", "{", "_", ":", ",", "\0", "\r", "\u00aa"}) {
      fault("fee" + sign + "1;", 1, 3);
    }
    fault("fee1a;", 1, 4);
    fault("fee 1!;", 1, 5);
    fault("fee\t1;", 1, 3);
    fault("fee :1;", 1, 4);
    fault("fee +1;", 1, 4);
    fault("fee 1 2;", 1, 6);
    fault("fee (1;", 1, 6);
    fault("fee 1);", 1, 5);
    fault("fee ();", 1, 5);
    fault("fee 1<2;", 1, 5);
    fault("fee not 1;", 1, 4);
    fault("fee if 1 then 2 else 3 end;", 1, 9);
    fault("fee if 1<2<3 then 2 else 3 end;", 1, 10);
    fault("fee if (1<2) then 2 else 3 end;", 1, 9);
    fault("fee if 1<2 then 2 end;", 1, 18);
    fault("fee if 1<2 then 2 else 3;", 1, 24);
    fault("fee if 1< =2 then 2 else 3 end;", 1, 10);
    fault("fee if 1=>2 then 2 else 3 end;", 1, 9);
    fault("fee if 1==2 then 2 else 3 end;", 1, 9);
    fault("fee wears;", 1, 4);
    fault("fee to;", 1, 4);
    fault("draw;", 1, 4);
    fault("draw 1;", 1, 5);
    fault("draw stroke;", 1, 11);
    fault("draw stroke x;", 1, 12);
    fault("draw frame frame;", 1, 11);
    fault("draw frame with;", 1, 15);
    fault("draw frame + frame;", 1, 11);
    fault("draw turn with frame;", 1, 10);
    fault("draw ();", 1, 6);
    fault("add 1 of 1;", 1, 6);
    fault("rub 1 to 1;", 1, 6);
    fault("add to 1;", 1, 4);
    fault("add 1 to;", 1, 8);
    fault("add -1 to 1;", 1, 4);
    fault("renew;", 1, 5);
    fault("renew number;", 1, 6);
    fault("year;", 1, 4);
    fault("year 1+1;", 1, 6);
    fault("size 1;", 1, 0);
    fault("number;", 1, 0);
    fault("1", 1, 0);
  }

  private static void wrongNumbers() {
    fault("fee 10000;", 2, 4);
    fault("fee 99999999999999999999999;", 2, 4);
    fault("fee 4294967297;", 2, 4);
    fault("draw stroke 20;", 2, 12);
    fault("draw bar 3;", 2, 9);
    fault("draw post 3;", 2, 10);
    fault("add 20 to 0;", 2, 4);
    fault("add 0 to 8;", 2, 9);
    fault("rub 20 of 0;", 2, 4);
    fault("rub 0 of 8;", 2, 9);
    fault("renew 8;", 2, 6);
    fault("year 0;", 2, 5);
    fault("year 61;", 2, 5);
    fault("year 10000;", 2, 5);
    // Where no number can stand it is the least fault that counts.
    fault("fee 1 10000;", 1, 6);
    good("draw stroke 0019;");
  }

  private static void tooManyOpen() {
    good("fee ((((((((1))))))));");
    fault("fee (((((((((1)))))))));", 3, 12);
    good("fee --------1;");
    fault("fee ---------1;", 3, 12);
    good("fee 1-1-1-1-1-1-1-1-1-1-1-1;");
    good("fee size has size has size has size has 1;");
    fault("fee size has size has size has size has size 1;", 3, 40);
    good("fee if not not not not not not not 1<2 then 1 else 2 end;");
    fault("fee if not not not not not not not not 1<2 then 1 else 2 end;", 3, 35);
    fault("fee ((((((((if 1<2 then 1 else 2 end))))))));", 3, 12);
    fault("fee ((((((((size 1))))))));", 3, 12);
    // Those that are closed are open no more.
    good("fee ((((((((1))))))))+((((((((1))))))));");
    good("fee (size 1+size 1+size 1+size 1+size 1+size 1+size 1+size 1+size 1);");
    good("fee if not 1<2 and not 1<2 and not 1<2 and not 1<2 and not 1<2 and not 1<2 and not 1<2"
        + " and not 1<2 and not 1<2 then 1 else 2 end;");
    // if is open to its end.
    fault("fee if 1<2 then 1 else --------1 end;", 3, 30);
    good("fee if 1<2 then 1 else -------1 end;");
    good("draw turn tip turn tip turn tip turn tip frame;");
    fault("draw turn tip turn tip turn tip turn tip tip frame;", 3, 41);
    good("draw turn frame with turn frame with turn frame with turn frame with turn frame"
        + " with turn frame with turn frame with turn frame with turn frame;");
    fault("draw ((((((((turn frame))))))));", 3, 13);
    fault("draw turn((((((((frame))))))));", 3, 16);
  }

  private static void secondLaws() {
    fault("wears 1;wears 1;", 4, 8);
    fault("fee 1;year 1;fee 1;", 4, 13);
    good("fee 1;wears 1;");
    fault("fee 1;wears 1;fee", 4, 14);
  }

  private static void wrongNames() {
    fault("wears pieces;", 5, 6);
    fault("fee which;", 5, 4);
    fault("wears 1;fee 1+which;", 5, 14);
    fault("fee 1;wears size pieces;", 5, 17);
    // Where no name can stand it is the least fault that counts.
    fault("fee 1 which;", 1, 6);
    fault("fee names;", 1, 4);
    good("wears which;fee pieces;");
  }

  private static void tooManyClauses() {
    String most = "renew 0;".repeat(24);
    good(most);
    fault(most + "renew 0;", 6, 192);
    fault(most + "renew", 6, 192);
    fault(most + "\nfee 1;", 6, 193);
    fault(most + "renews", 1, 192);
    fault(most + ";", 1, 192);
    String laws = "fee 1;" + "renew 0;".repeat(23);
    fault(laws + "fee 1;", 4, laws.length());
    fault(laws + "wears 1;", 6, laws.length());
  }

  private static void theFirstAndTheLeast() {
    fault("fee which+10000;", 5, 4);
    fault("fee 10000+which;", 2, 4);
    fault("fee (((((((((10000;", 3, 12);
    fault("year 61;year 0;", 2, 5);
    fault("year 1;year 61", 2, 12);
  }

  private static void rules() {
    MarkOffice x = new MarkOffice();
    x.mark(7);
    Due.due("by(0) of none", x.by(0), false);
    Due.due("by(-1)", x.by(-1), true);
    Due.due("by(-2)", x.by(-2), false);
    Due.told(x, "fee 11;wears 4;");
    Due.told(x, "fee 12;");
    Due.due("by(2)", x.by(2), false);
    Due.due("none rules at first", x.of(0, 7), 3);
    Due.due("by(1)", x.by(1), true);
    Due.due("about(2)", x.about(2), 1);
    Due.due("fee by 1", x.of(0, 7), 12);
    Due.due("wears by 1, without", x.wears(0, 0), 3);
    Due.due("by(0)", x.by(0), true);
    Due.due("fee by 0", x.of(0, 7), 11);
    Due.due("wears by 0", x.wears(0, 0), 4);
    Due.due("by(5)", x.by(5), false);
    Due.due("it still rules", x.about(2), 0);
    Due.due("by(-1)", x.by(-1), true);
    Due.due("fee by none", x.of(0, 7), 3);
  }
}
