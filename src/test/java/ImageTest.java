/** Promises 47 and 48: the image and back to it. */
public final class ImageTest {
  public static void main(String[] args) {
    all();
    itStays();
    textsBehind();
    notTheTape();
    stepsOfTheImage();
    Due.close("ImageTest");
  }

  private static MarkOffice told() {
    MarkOffice x = new MarkOffice();
    x.mark(7);
    x.mark(48);
    Due.told(x, "fee 9;wears which+number*5;");
    Due.told(x, "fee 1;");
    x.by(0);
    x.add(0, 9);
    x.year(3);
    x.witness(4, true);
    x.witness(5, false);
    x.said(0, 1, 1);
    return x;
  }

  private static int[] state(MarkOffice x) {
    int lines = x.book(-1, 0);
    return new int[] {
      x.about(0), x.about(1), x.about(2), x.about(3), x.about(4), x.about(5),
      x.is(0), x.is(1), x.is(2), x.is(3), x.of(0, 0), x.of(0, 1), x.of(1, 0), x.of(1, 1), x.of(2, 0),
      x.of(0, 7), x.wears(1, 8), lines, x.book(lines - 1, 0), x.book(lines - 1, 3), x.book(0, 3),
      x.ways(0), x.ways(1), x.whose(), x.foretold(20, 0)
    };
  }

  private static void same(String what, int[] got, int[] want) {
    for (int i = 0; i < want.length; i++) {
      Due.due(what + ", " + i, got[i], want[i]);
    }
  }

  private static void changeAll(MarkOffice x) {
    x.mark(1);
    Due.told(x, "fee 2;");
    x.by(1);
    x.renew(0);
    x.rub(0, 0);
    x.rub(1, 4);
    x.ages(77, 30);
    x.year(20);
    x.witness(-1, true);
    x.witness(6, true);
    x.said(-1, 0, 0);
    x.said(1, 2, 9);
    x.said(1, 2, 9);
  }

  private static void all() {
    MarkOffice x = told();
    int[] was = state(x);
    Due.due("image()", x.image(), 3);
    same("the image changes nothing", state(x), was);
    changeAll(x);
    Due.due("it was changed", x.about(0), 3);
    Due.due("back()", x.back(), 3);
    same("back", state(x), was);
  }

  private static void itStays() {
    MarkOffice x = told();
    x.image();
    int[] was = state(x);
    for (int i = 0; i < 3; i++) {
      changeAll(x);
      Due.due("back()", x.back(), 3);
      same("back " + i, state(x), was);
    }
    x.year(1);
    Due.due("a new image()", x.image(), 4);
    x.year(9);
    Due.due("back()", x.back(), 4);
  }

  /** Texts told behind the image are gone; others can be told in their stead. */
  private static void textsBehind() {
    MarkOffice x = told();
    x.image();
    Due.due("text()", Due.told(x, "fee 33;"), 2);
    x.back();
    Due.due("by(2)", x.by(2), false);
    Due.due("text()", Due.told(x, "fee 44;"), 2);
    x.by(2);
    Due.due("of(0, 7)", x.of(0, 7), 44);
    x.image();
    x.by(0);
    Due.due("a fault harms no text", Due.told(x, "fee 55"), -1);
    x.back();
    Due.due("of(0, 7)", x.of(0, 7), 44);
  }

  private static void notTheTape() {
    MarkOffice x = told();
    Due.told(x, "fee;");
    x.feed(0, 0, 0, 0, 0);
    x.image();
    Due.told(x, "");
    Due.told(x, "draw stroke 20;");
    Due.due("fault(0)", x.fault(0), 2);
    x.end(0);
    x.feed(0x66656520, 0x383b2020, 0, 0, 0);
    x.end(6);
    x.back();
    Due.due("about(6)", x.about(6), 6);
    Due.due("fault(0)", x.fault(0), 2);
    Due.due("fault(1)", x.fault(1), 12);
    Due.due("text()", x.text(), 2);
    x.by(2);
    Due.due("of(0, 7)", x.of(0, 7), 8);
  }

  private static void stepsOfTheImage() {
    MarkOffice x = told();
    x.image();
    for (int i = 0; i < 4; i++) {
      Due.due("undo()", x.undo(), 3 - i);
    }
    Due.due("of(0, 0)", x.of(0, 0), 7);
    for (int i = 0; i < 40; i++) {
      x.ages(i, 1);
    }
    x.back();
    Due.due("about(3)", x.about(3), 4);
    x.undo();
    Due.due("YEAR", x.is(0), 2);
    x.undo();
    x.undo();
    Due.due("undo()", x.undo(), 0);
    Due.due("of(0, 0)", x.of(0, 0), 7);
    Due.due("book(-1, 0)", x.book(-1, 0), 0);
  }
}
