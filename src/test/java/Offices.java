/** Offices in some state, and what can be seen of them. */
final class Offices {
  static final int ALL = (1 << 20) - 1;
  static final int LOWEST = Integer.MIN_VALUE;
  static final int HIGHEST = Integer.MAX_VALUE;
  /** From where on what is seen is of an image. */
  static final int FIRST_OF_IMAGE = 3;

  private Offices() {}

  /** With marks of these strokes. */
  static MarkOffice of(int... marks) {
    MarkOffice x = new MarkOffice();
    for (int strokes : marks) {
      x.mark(strokes);
    }
    return x;
  }

  /** With marks of these strokes, and a text that rules. */
  static MarkOffice under(String text, int... marks) {
    MarkOffice x = of(marks);
    Due.due("text() of " + text, Due.told(x, text), 0);
    Due.due("by(0)", x.by(0), true);
    return x;
  }

  /** With something of everything: marks, texts, steps, lines, a witness, what was said, a tape. */
  static MarkOffice busy() {
    MarkOffice x = under("fee 9;wears which-3+number;", 7, 48, ALL);
    Due.told(x, "fee;");
    x.add(0, 9);
    x.rub(1, 4);
    x.year(2);
    x.witness(4, true);
    x.witness(19, false);
    x.said(0, 5, 2);
    Due.due("whose()", x.whose(), 1);
    x.feed(0, 0, 0, 0, 0);
    return x;
  }

  /** YEARS pass to this one. */
  static void pass(MarkOffice x, int year) {
    while (x.is(0) + 60 <= year) {
      x.year(60);
    }
    if (x.is(0) < year) {
      x.year(year - x.is(0));
    }
    Due.due("YEAR", x.is(0), year);
  }

  /** X behind a draw. */
  static int after(int x) {
    return (x * 677 + 557) % 30983;
  }

  /** All that can be seen in some fifty calls; the tape and the latest FAULT come first. */
  static int[] seen(MarkOffice x) {
    int[] seen = new int[53];
    seen[0] = x.about(6);
    seen[1] = x.fault(0);
    seen[2] = x.fault(1);
    int count = FIRST_OF_IMAGE;
    for (int what = 0; what < 6; what++) {
      seen[count++] = x.about(what);
    }
    for (int what = 0; what < 4; what++) {
      seen[count++] = x.is(what);
    }
    for (int mark = 0; mark < 8; mark++) {
      seen[count++] = x.of(mark, 0);
      seen[count++] = x.of(mark, 1);
      seen[count++] = x.of(mark, 7);
      seen[count++] = x.ways(mark);
    }
    int lines = x.book(-1, 0);
    seen[count++] = lines;
    seen[count++] = x.book(lines - 1, 3);
    for (int what = 0; what < 4; what++) {
      seen[count++] = x.book(0, what);
    }
    seen[count++] = x.whose();
    seen[count++] = x.wears(0, 5);
    return seen;
  }

  static void same(String what, int[] got, int[] want) {
    same(what, got, want, 0);
  }

  /** The same but for the tape and the latest FAULT. */
  static void sameImage(String what, int[] got, int[] want) {
    same(what, got, want, FIRST_OF_IMAGE);
  }

  private static void same(String what, int[] got, int[] want, int first) {
    for (int i = first; i < want.length; i++) {
      Due.due(what + ", place " + i, got[i], want[i]);
    }
  }

  /** The lines of a BOOK, one by one. */
  static void line(MarkOffice x, int i, int year, int mark, int what, int stroke) {
    int[] line = {year, mark, what, stroke};
    for (int tells = 0; tells < 4; tells++) {
      Due.due("book(" + i + ", " + tells + ")", x.book(i, tells), line[tells]);
    }
  }

  /** A text of its own office has this FAULT at this place; 0 and NONE without. */
  static void fault(String text, int fault, int place) {
    MarkOffice x = new MarkOffice();
    Due.due("text() of " + text, Due.told(x, text), fault == 0 ? 0 : -1);
    Due.due("fault(0) of " + text, x.fault(0), fault);
    Due.due("fault(1) of " + text, x.fault(1), place);
  }

  static void good(String text) {
    fault(text, 0, -1);
  }

  /** What a law of fee comes to for a mark of strokes 0, 1, 2 beside one of none. */
  static void fee(String law, int fee) {
    Due.due("fee " + law, under("fee " + law + ";", 7, 0).of(0, 7), fee);
  }

  static void wears(String law, int stroke, int wears) {
    Due.due("wears " + law, under("wears " + law + ";", 7, 0).wears(0, stroke), wears);
  }

  /** Whether what an if asks is so. */
  static void asked(String asked, boolean so) {
    fee("if " + asked + " then 11 else 22 end", so ? 11 : 22);
  }

  /** The strokes of a MARK drawn by a shape. */
  static void shape(String shape, int strokes) {
    MarkOffice x = new MarkOffice();
    Due.told(x, "draw " + shape + ";");
    Due.due("played draw " + shape, x.played(0), -1);
    Due.due("draw " + shape, x.of(0, 1), strokes);
  }
}
