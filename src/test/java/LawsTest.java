/** Promises 15 (fee), 16, 42 to 44: what laws come to, what was said of them, who owes most. */
public final class LawsTest {
  public static void main(String[] args) {
    sums();
    held();
    asked();
    names();
    namesOfWears();
    bounds();
    without();
    otherArguments();
    said();
    whose();
    richest();
    Due.close("LawsTest");
  }

  /** An office with one mark of strokes 0, 1, 2 and another of none. */
  private static MarkOffice office() {
    MarkOffice x = new MarkOffice();
    x.mark(7);
    x.mark(0);
    return x;
  }

  private static void fee(String law, int fee) {
    MarkOffice x = office();
    Due.due("text of fee " + law, Due.told(x, "fee " + law + ";"), 0);
    x.by(0);
    Due.due("fee " + law, x.of(0, 7), fee);
  }

  private static void sums() {
    fee("7", 7);
    fee("10-3-2", 5);
    fee("10-(3-2)", 9);
    fee("2+3*4", 14);
    fee("(2+3)*4", 20);
    fee("100/7/2", 7);
    fee("100/(7/2)", 33);
    fee("7*3/2", 10);
    fee("3/2*7", 7);
    fee("20+-7/2", 17);
    fee("20+7/-2", 17);
    fee("20+-7/-2", 23);
    fee("5+9/0", 5);
    fee("5+-9/(1-1)", 5);
    fee("5-0/3", 5);
    fee("- -4", 4);
    fee("2*-3+10", 4);
    fee("-3+10", 7);
  }

  private static void held() {
    // 9999 * 9999 is 1000000 at once.
    fee("9999*9999-9999*100-99", 1);
    fee("9999*9999*0+1", 1);
    fee("9999*9999/9999-90", 10);
    fee("-9999*9999+9999*9999", 0);
    fee("(-9999*9999-9999)+9999*100+200", 99);
    fee("-9999*9999+9999*100+110", 10);
    fee("9999*9999+9999-9999*100-80", 20);
    fee("9999*100+9999-9999*100-90", 10);
    fee("-(9999*9999)+9999*100+101", 1);
    fee("if 9999*9999=9999*1000 then 1 else 2 end", 1);
    fee("if 0-9999*9999=-9999*1000 then 1 else 2 end", 1);
  }

  private static void choice(String asked, boolean so) {
    fee("if " + asked + " then 11 else 22 end", so ? 11 : 22);
  }

  private static void asked() {
    String[] signs = {"<", "<=", ">", ">=", "=", "#"};
    boolean[] lower = {true, true, false, false, false, true};
    boolean[] same = {false, true, false, true, true, false};
    boolean[] higher = {false, false, true, true, false, true};
    for (int i = 0; i < 6; i++) {
      choice("2" + signs[i] + "3", lower[i]);
      choice("3" + signs[i] + "3", same[i]);
      choice("4" + signs[i] + "3", higher[i]);
      choice("not 4" + signs[i] + "3", !higher[i]);
      choice("not not 4" + signs[i] + "3", higher[i]);
    }
    choice("-2<-1", true);
    // and is before or, from wherever it comes.
    choice("1=1 or 1=1 and 1=2", true);
    choice("1=2 and 1=1 or 1=1", true);
    choice("1=2 and 1=1", false);
    choice("1=1 and 1=2", false);
    choice("1=1 or 1=2", true);
    choice("1=1 or 1=2 and 1=1", true);
    choice("1=2 and 1=2 or 1=2", false);
    choice("1=1 and 1=1 and 1=2", false);
    choice("1=2 or 1=2 or 1=1", true);
    // not is of its ASK alone.
    choice("not 1=2 and 1=2", false);
    choice("not 1=1 or 1=1", true);
    choice("1+1=2", true);
    fee("1+if 1=1 then 2 else 3 end*4", 9);
    fee("if 1=2 then 1 else if 1=2 then 2 else 3 end end", 3);
    fee("if if 1=1 then 1 else 0 end=1 then if 1=2 then 4 else 5 end else 6 end+1", 6);
  }

  private static void names() {
    fee("number", 0);
    fee("strokes", 3);
    // 0-1, 1-2, 3-4: four ends, two pieces.
    fee("ends", 4);
    fee("pieces", 2);
    fee("year+fund", 0);
    fee("size 0", 3);
    fee("size 1", 0);
    fee("size 2", 0);
    fee("size -1", 0);
    fee("size 0+1", 4);
    fee("size size 1", 3);
    fee("has 0+has 2*10", 11);
    fee("has 3", 0);
    fee("has 20", 0);
    fee("has -1", 0);
    fee("has 32", 0);
    fee("has(1+1)", 1);
    fee("size(has 0-1)", 3);
    MarkOffice x = office();
    Due.told(x, "fee number*10+strokes+1;");
    x.by(0);
    Due.due("fee of mark 1", x.of(1, 7), 11);
    x.add(1, 5);
    Due.due("fee of mark 1 now", x.of(1, 7), 12);
    Due.told(x, "fee year*10+fund;");
    x.by(1);
    x.year(1);
    // MARK 0 owes 0, so does MARK 1.
    Due.due("fee behind a year", x.of(0, 7), 10);
    x.year(1);
    // 10, then 20.
    Due.due("fund", x.is(2), 30);
    Due.due("fee behind two years", x.of(1, 7), 50);
  }

  private static void wears(String law, int mark, int stroke, int wears) {
    MarkOffice x = office();
    Due.due("text of wears " + law, Due.told(x, "wears " + law + ";"), 0);
    x.by(0);
    Due.due("wears " + law, x.wears(mark, stroke), wears);
  }

  private static void namesOfWears() {
    wears("which", 0, 0, 0);
    wears("which", 0, 9, 9);
    wears("which-10", 0, 19, 9);
    wears("has which", 0, 2, 1);
    wears("has which", 0, 3, 0);
    wears("number*7", 1, 3, 7);
    wears("strokes", 0, 19, 3);
    wears("ends", 0, 19, 4);
    wears("size 0+year+fund", 1, 19, 3);
    wears("if which<10 then 1 else 2 end", 0, 10, 2);
  }

  private static void bounds() {
    fee("99", 99);
    fee("100", 99);
    fee("-1", 0);
    fee("0", 0);
    wears("10", 0, 0, 10);
    wears("11", 0, 0, 10);
    wears("-1", 0, 0, 0);
    wears("0", 0, 0, 0);
  }

  private static void without() {
    MarkOffice x = office();
    Due.due("without a text: fee", x.of(0, 7), 3);
    Due.due("without a text: wears", x.wears(0, 0), 3);
    Due.told(x, "fee 8;");
    Due.told(x, "wears 8;");
    x.by(0);
    Due.due("fee alone: wears", x.wears(0, 0), 3);
    x.by(1);
    Due.due("wears alone: fee", x.of(0, 7), 3);
    x.add(0, 9);
    Due.due("wears alone: fee now", x.of(0, 7), 4);
  }

  private static void otherArguments() {
    MarkOffice x = office();
    Due.due("wears(2, 0)", x.wears(2, 0), -1);
    Due.due("wears(-1, 0)", x.wears(-1, 0), -1);
    Due.due("wears(0, -1)", x.wears(0, -1), -1);
    Due.due("wears(0, 20)", x.wears(0, 20), -1);
    Due.due("wears(1, 19)", x.wears(1, 19), 3);
  }

  private static void said() {
    MarkOffice x = office();
    Due.due("said(2, 0, 3)", x.said(2, 0, 3), -2);
    Due.due("said(-2, 0, 3)", x.said(-2, 0, 3), -2);
    Due.due("said(0, 20, 3)", x.said(0, 20, 3), -2);
    Due.due("said(0, -1, 3)", x.said(0, -1, 3), -2);
    Due.due("said(0, 0, 11)", x.said(0, 0, 11), -2);
    Due.due("said(0, 0, -1)", x.said(0, 0, -1), -2);
    Due.due("about(5)", x.about(5), 0);
    Due.due("said(0, 0, 0)", x.said(0, 0, 0), 1);
    Due.due("said(0, 0, 10)", x.said(0, 0, 10), 2);
    Due.due("the same again", x.said(0, 0, 10), 3);
    for (int i = 4; i <= 8; i++) {
      Due.due("said " + i, x.said(1, 19, i), i);
    }
    Due.due("the ninth", x.said(0, 0, 3), -2);
    Due.due("about(5)", x.about(5), 8);
    Due.due("said(-1, 99, 99)", x.said(-1, 99, 99), 0);
    Due.due("about(5)", x.about(5), 0);
    Due.due("said(0, 0, 3)", x.said(0, 0, 3), 1);
  }

  private static void whose() {
    MarkOffice x = office();
    Due.due("whose() without texts", x.whose(), 0);
    Due.told(x, "wears which;");
    Due.told(x, "fee 1;");
    Due.told(x, "wears strokes;");
    Due.told(x, "wears 3;");
    Due.due("whose(), nothing said", x.whose(), 15);
    x.said(0, 3, 3);
    Due.due("all say 3", x.whose(), 15);
    x.said(0, 4, 3);
    Due.due("not which", x.whose(), 14);
    // As now.
    x.add(0, 4);
    Due.due("not strokes now", x.whose(), 10);
    x.undo();
    Due.due("strokes again", x.whose(), 14);
    x.said(1, 4, 0);
    Due.due("strokes alone", x.whose(), 4);
    x.said(1, 4, 1);
    Due.due("none", x.whose(), 0);
    // Which text rules doesn't matter.
    x.said(-1, 0, 0);
    x.by(0);
    x.said(0, 5, 5);
    Due.due("which alone", x.whose(), 1);
  }

  private static void richest() {
    MarkOffice x = new MarkOffice();
    Due.due("richest() without marks", x.richest(), -1);
    x.mark(0);
    Due.due("richest() of none", x.richest(), -1);
    x.mark(1);
    Due.due("richest() of 1", x.richest(), 1);
    x.add(1, 1);
    x.mark(5);
    Due.due("richest(), the lowest of like ones", x.richest(), 1);
    x.add(2, 9);
    Due.due("richest() now", x.richest(), 2);
    Due.told(x, "fee 5-strokes;");
    Due.told(x, "fee 0-1;");
    x.by(0);
    Due.due("richest() by a law", x.richest(), 0);
    x.by(1);
    Due.due("richest(), none above 0", x.richest(), -1);
  }
}
