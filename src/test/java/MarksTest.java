/** Promises 1, 2, 15, 17 and 49: a new object, marks and what they are. */
public final class MarksTest {
  public static void main(String[] args) {
    newObject();
    told();
    strokesNow();
    whatAMarkIs();
    otherMarks();
    about();
    Due.close("MarksTest");
  }

  private static void newObject() {
    MarkOffice x = new MarkOffice();
    int[] about = {0, 0, -1, 0, 0, 0, 0};
    for (int what = 0; what < about.length; what++) {
      Due.due("new: about(" + what + ")", x.about(what), about[what]);
    }
    int[] is = {0, 431, 0, 0};
    for (int what = 0; what < is.length; what++) {
      Due.due("new: is(" + what + ")", x.is(what), is[what]);
    }
    Due.due("new: of(0, 0)", x.of(0, 0), -1);
    Due.due("new: book(-1, 0)", x.book(-1, 0), 0);
    Due.due("new: undo()", x.undo(), -1);
    // The image of a new object is the new object.
    x.mark(5);
    x.add(0, 1);
    Due.due("back()", x.back(), 0);
    Due.due("new again: about(0)", x.about(0), 0);
    Due.due("new again: about(3)", x.about(3), 0);
    Due.due("new again: mark(9)", x.mark(9), 0);
    Due.due("new again: of(0, 1)", x.of(0, 1), 9);
  }

  private static void told() {
    MarkOffice x = new MarkOffice();
    Due.due("mark(-1)", x.mark(-1), -1);
    Due.due("mark(2^20)", x.mark(1 << 20), -1);
    Due.due("mark(lowest int)", x.mark(Integer.MIN_VALUE), -1);
    Due.due("mark(none)", x.mark(0), 0);
    Due.due("mark(all)", x.mark((1 << 20) - 1), 1);
    Due.due("the same again", x.mark(0), 2);
    for (int i = 3; i < 8; i++) {
      Due.due("mark " + i, x.mark(i), i);
    }
    Due.due("the ninth", x.mark(1), -1);
    Due.due("about(0)", x.about(0), 8);
    Due.due("of(1, 0)", x.of(1, 0), (1 << 20) - 1);
    Due.due("of(7, 1)", x.of(7, 1), 7);
  }

  private static void strokesNow() {
    MarkOffice x = new MarkOffice();
    x.mark(3);
    x.mark(8);
    x.add(0, 4);
    x.rub(0, 0);
    Due.due("of(0, 0)", x.of(0, 0), 18);
    Due.due("of(0, 1)", x.of(0, 1), 3);
    Due.due("of(0, 2)", x.of(0, 2), 2);
    Due.due("is(3)", x.is(3), 1);
    x.rub(1, 3);
    Due.due("is(3)", x.is(3), 3);
    x.add(1, 3);
    Due.due("is(3), as registered again", x.is(3), 1);
  }

  private static void of(int strokes, int ends, int pieces, int holes, int crossings) {
    MarkOffice x = new MarkOffice();
    x.mark(strokes);
    String of = "strokes " + strokes + ": of(0, ";
    Due.due(of + "2)", x.of(0, 2), Integer.bitCount(strokes));
    Due.due(of + "3)", x.of(0, 3), ends);
    Due.due(of + "4)", x.of(0, 4), pieces);
    Due.due(of + "5)", x.of(0, 5), holes);
    Due.due(of + "6)", x.of(0, 6), crossings);
    Due.due(of + "7), without a law", x.of(0, 7), Integer.bitCount(strokes));
  }

  private static void whatAMarkIs() {
    of(0, 0, 0, 0, 0);
    of(1, 2, 1, 0, 0);
    of(2931, 0, 1, 1, 0);
    // 0-1 and 7-8: two pieces.
    of(1 | 1 << 5, 4, 2, 0, 0);
    // The two of the first square cross, those of two squares don't.
    of(1 << 12 | 1 << 16, 4, 2, 0, 1);
    of(1 << 12 | 1 << 19, 4, 2, 0, 0);
    of(1 << 12 | 1 << 17, 2, 1, 0, 0);
    of(1 << 15 | 1 << 19, 4, 2, 0, 1);
    // A triangle 0-1, 0-3, 1-3.
    of(1 | 1 << 6 | 1 << 16, 0, 1, 1, 0);
    // All: corners have 3, sides 5, the middle 8; 20 + 1 - 9 holes.
    of((1 << 20) - 1, 8, 1, 12, 4);
  }

  private static void otherMarks() {
    MarkOffice x = new MarkOffice();
    x.mark(1);
    Due.due("of(0, -1)", x.of(0, -1), -1);
    Due.due("of(0, 8)", x.of(0, 8), -1);
    Due.due("of(1, 0)", x.of(1, 0), -1);
    Due.due("of(-1, 0)", x.of(-1, 0), -1);
    Due.due("of(highest int, 0)", x.of(Integer.MAX_VALUE, 0), -1);
    Due.due("is(-1)", x.is(-1), -2);
    Due.due("is(4)", x.is(4), -2);
  }

  private static void about() {
    MarkOffice x = new MarkOffice();
    x.mark(1);
    x.mark(2);
    Due.told(x, "fee 2;");
    Due.told(x, "fee 3;");
    Due.told(x, "");
    x.by(1);
    x.add(0, 5);
    x.witness(4, true);
    x.witness(5, false);
    x.said(0, 0, 3);
    x.feed(0, 0, 0, 0, 0);
    int[] about = {2, 3, 1, 1, 2, 1, 20};
    for (int what = 0; what < about.length; what++) {
      Due.due("about(" + what + ")", x.about(what), about[what]);
    }
    Due.due("about(-1)", x.about(-1), -2);
    Due.due("about(7)", x.about(7), -2);
    x.by(-1);
    Due.due("about(2), none", x.about(2), -1);
  }
}
