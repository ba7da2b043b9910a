/** Sums of part II of the terms: what they come to, from the left, held at each step. */
final class BoundsOfSums {
  private BoundsOfSums() {}

  static void look() {
    sumsAndProducts();
    ones();
    sizes();
    strokesAsked();
    choices();
    eitherAndBoth();
    comparisons();
    names();
    namesOfOne();
    divisions();
    held();
    bothSides();
  }

  private static void sumsAndProducts() {
    Sentences.terms("SUM: PRODUCT {+ or - PRODUCT}");
    Offices.fee("7", 7);
    Offices.fee("7+2-4", 5);
    Offices.fault("fee 7+;", 1, 6);
    Sentences.terms("PRODUCT: ONE {* or / ONE}");
    Offices.fee("7*3", 21);
    Offices.fee("7+2*3-8/4", 11);
    Offices.fault("fee 7*;", 1, 6);
    Sentences.terms("From the left");
    Offices.fee("10-3-2", 5);
    Offices.fee("100/7/2", 7);
    Offices.fee("7/2*2", 6);
    Offices.fee("7*3/2", 10);
  }

  private static void ones() {
    Sentences.terms("ONE: NUMBER, NAME, ( SUM ), - ONE");
    Offices.fee("0", 0);
    Offices.fee("strokes", 3);
    Offices.fee("(2+3)*4", 20);
    Offices.fee("-3+10", 7);
    Offices.fee("- -4", 4);
    Offices.fee("2*-3+10", 4);
    Offices.fee("20-(-(3))", 23);
  }

  private static void sizes() {
    Sentences.terms("size ONE (how many strokes the MARK of that number has now; 0 for others)");
    Offices.fee("size 0", 3);
    Offices.fee("5+size 1", 5);
    Offices.fee("5+size 2", 5);
    Offices.fee("5+size 8", 5);
    Offices.fee("5+size -1", 5);
    Offices.fee("5+size(9999*9999)", 5);
    Offices.fee("5+size(-9999*9999)", 5);
    // Of one ONE alone.
    Offices.fee("size 0+1", 4);
    Offices.fee("size 0*7", 21);
    MarkOffice x = Offices.under("fee size 1;", 0, 7);
    x.rub(1, 0);
    Due.due("fee size 1, now", x.of(0, 7), 2);
    MarkOffice full = Offices.under("fee size 7;", 0, 0, 0, 0, 0, 0, 0, 31);
    Due.due("fee size 7", full.of(0, 7), 5);
  }

  private static void strokesAsked() {
    Sentences.terms("has ONE (1, if the MARK has the stroke of that number now, else 0)");
    Offices.fee("has 0", 1);
    Offices.fee("has 2", 1);
    Offices.fee("5+has 3", 5);
    Offices.fee("5+has 20", 5);
    Offices.fee("5+has 32", 5);
    Offices.fee("5+has -1", 5);
    Offices.fee("5+has -30", 5);
    Offices.fee("5+has(9999*9999)", 5);
    Offices.fee("has 1+1", 2);
    MarkOffice x = Offices.under("fee has 19;", 0);
    x.add(0, 19);
    Due.due("fee has 19, now", x.of(0, 7), 1);
  }

  private static void choices() {
    Sentences.terms("if EITHER then SUM else SUM end");
    Offices.asked("1=1", true);
    Offices.asked("1=2", false);
    Offices.fee("1+if 1=1 then 2 else 3 end*4", 9);
    Offices.fee("if 1=2 then 1 else if 1=2 then 2 else 3 end end", 3);
    Offices.fee("if if 1=1 then 1 else 0 end=1 then if 1=2 then 4 else 5 end else 6 end+1", 6);
    Offices.fault("fee if 1=1 then else 3 end;", 1, 16);
    Offices.fault("fee if then 1 else 3 end;", 1, 7);
  }

  private static void eitherAndBoth() {
    Sentences.terms("EITHER: BOTH {or BOTH}");
    Offices.asked("1=1 or 1=2", true);
    Offices.asked("1=2 or 1=1", true);
    Offices.asked("1=2 or 1=2", false);
    Offices.asked("1=2 or 1=2 or 1=1", true);
    Sentences.terms("BOTH: ASK {and ASK}");
    Offices.asked("1=1 and 1=1", true);
    Offices.asked("1=1 and 1=2", false);
    Offices.asked("1=2 and 1=1", false);
    Offices.asked("1=1 or 1=1 and 1=2", true);
    Offices.asked("1=2 and 1=1 or 1=1", true);
    Offices.fault("fee if 1=1 or then 1 else 2 end;", 1, 14);
    Offices.fault("fee if and 1=1 then 1 else 2 end;", 1, 7);
  }

  private static void comparisons() {
    Sentences.terms("ASK: not ASK, or SUM one of < <= > >= = # (unlike) SUM");
    String[] signs = {"<", "<=", ">", ">=", "=", "#"};
    boolean[] lower = {true, true, false, false, false, true};
    boolean[] same = {false, true, false, true, true, false};
    for (int i = 0; i < 6; i++) {
      Offices.asked("2" + signs[i] + "3", lower[i]);
      Offices.asked("3" + signs[i] + "3", same[i]);
      Offices.asked("not 3" + signs[i] + "3", !same[i]);
      Offices.asked("-3" + signs[i] + "-2", lower[i]);
    }
    Offices.asked("not not 1=1", true);
    Offices.asked("not 1=2 and 1=2", false);
    Offices.asked("1+1=4/2", true);
    Offices.fault("fee if 1 then 2 else 3 end;", 1, 9);
  }

  private static void names() {
    Sentences.terms("NAMES: year, number (of the MARK), strokes (how many it has now), ends (its ENDS), fund in both");
    // Strokes 0, 1, 2: 0-1, 1-2 and 3-4, four ends.
    Offices.fee("5+year", 5);
    Offices.fee("5+number", 5);
    Offices.fee("strokes", 3);
    Offices.fee("ends", 4);
    Offices.fee("5+fund", 5);
    Offices.wears("5+year", 0, 5);
    Offices.wears("5+number", 0, 5);
    Offices.wears("strokes", 0, 3);
    Offices.wears("ends", 0, 4);
    Offices.wears("5+fund", 0, 5);
    MarkOffice x = Offices.under("fee year*10+number+fund*5;wears fund+year+number;", 0, 0);
    Due.due("of(1, 7)", x.of(1, 7), 1);
    x.year(1);
    // MARK 0 owes 0, MARK 1 owes 1.
    Due.due("FUND", x.is(2), 1);
    Due.due("of(1, 7)", x.of(1, 7), 16);
    Due.due("wears(1, 9)", x.wears(1, 9), 3);
  }

  private static void namesOfOne() {
    Sentences.terms("which (the stroke) in wears");
    Offices.wears("which", 0, 0);
    Offices.wears("which", 9, 9);
    Offices.wears("which-10", 19, 9);
    Offices.fault("fee which;", 5, 4);
    Sentences.terms("pieces (its PIECES) in fee");
    Offices.fee("pieces", 2);
    Due.due("pieces of none", Offices.under("fee pieces;", 0).of(0, 7), 0);
    Offices.fault("wears pieces;", 5, 6);
  }

  private static void divisions() {
    Sentences.terms("/ cuts towards 0, by 0 it is 0");
    Offices.fee("7/2", 3);
    Offices.fee("10+-7/2", 7);
    Offices.fee("10+7/-2", 7);
    Offices.fee("10+-7/-2", 13);
    Offices.fee("10+1/2", 10);
    Offices.fee("10+-1/2", 10);
    Offices.fee("10+9/0", 10);
    Offices.fee("10+-9/0", 10);
    Offices.fee("10+0/0", 10);
    Offices.fee("10+9/(3-3)", 10);
    Offices.fee("10+9999*9999/0", 10);
  }

  private static void held() {
    Sentences.terms("what is above 1000000 (below the same less) is that, at each step");
    // 1000 * 1000 is that itself.
    Offices.fee("1000*1000-9999*100-50", 50);
    Offices.fee("1000*1000+1-9999*100-50", 50);
    Offices.fee("1000*1000-1-9999*100-50", 49);
    Offices.fee("9999*9999-9999*100-99", 1);
    Offices.fee("9999*9999*9999-9999*100-99", 1);
    Offices.fee("9999*9999/9999", 99);
    Offices.fee("9999*9999/9999-100+90", 90);
    Offices.fee("9999*100+9999-9999*100-50", 50);
    // Each less than 0.
    Offices.fee("-1000*1000+9999*100+150", 50);
    Offices.fee("-1000*1000-1+9999*100+150", 50);
    Offices.fee("-1000*1000+1+9999*100+150", 51);
    Offices.fee("9999*-9999+9999*100+150", 50);
    Offices.fee("0-9999*100-9999+9999*100+150", 50);
    // Products of what is held would wrap around in an int.
    Offices.fee("9999*9999*(9999*9999)-9999*100-50", 50);
    Offices.fee("-9999*9999*(9999*9999)+9999*100+150", 50);
    Offices.fee("-9999*9999*(-9999*9999)-9999*100-50", 50);
  }

  private static void bothSides() {
    Sentences.terms("or and and look at both sides always, of if just the SUM that is chosen is asked");
    Offices.asked("1=1 or 1/0=1", true);
    Offices.asked("1=2 and 1/0=1", false);
    Offices.asked("1/0=0 and 1=1", true);
    Offices.fee("if 1=1 then 5 else 1/0 end", 5);
    Offices.fee("if 1=2 then 1/0 else 6 end", 6);
    // What isn't chosen leaves nothing behind.
    Offices.fee("1+if 1=1 then 5 else 9*9 end+1", 7);
    Offices.fee("1+if 1=2 then 9*9 else 5 end+1", 7);
  }
}
