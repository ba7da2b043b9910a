/** Promises 20 to 27 and 34: strokes, ways, pens and trails, kinds. */
public final class StrokesTest {
  private static final int ALL = (1 << 20) - 1;

  public static void main(String[] args) {
    drawn();
    turned();
    joined();
    own();
    least();
    pens();
    trails();
    rim();
    kinds();
    smallSetsByTrying();
    Due.close("StrokesTest");
  }

  private static void drawn() {
    MarkOffice x = new MarkOffice();
    int[][] strokes = {
      {0, 1}, {1, 2}, {3, 4}, {4, 5}, {6, 7}, {7, 8},
      {0, 3}, {1, 4}, {2, 5}, {3, 6}, {4, 7}, {5, 8},
      {0, 4}, {1, 5}, {3, 7}, {4, 8},
      {1, 3}, {2, 4}, {4, 6}, {5, 7}
    };
    int found = 0;
    for (int a = 0; a < 9; a++) {
      for (int b = 0; b < 9; b++) {
        found += x.drawn(a, b) == -1 ? 0 : 1;
      }
    }
    Due.due("pairs of points, each both ways", found, 40);
    for (int stroke = 0; stroke < 20; stroke++) {
      int a = strokes[stroke][0];
      int b = strokes[stroke][1];
      Due.due("drawn(" + a + ", " + b + ")", x.drawn(a, b), stroke);
      Due.due("drawn(" + b + ", " + a + ")", x.drawn(b, a), stroke);
    }
    Due.due("drawn(2, 3)", x.drawn(2, 3), -1);
    Due.due("drawn(4, 4)", x.drawn(4, 4), -1);
    Due.due("drawn(0, 8)", x.drawn(0, 8), -1);
    Due.due("drawn(8, 9)", x.drawn(8, 9), -1);
    Due.due("drawn(-1, 0)", x.drawn(-1, 0), -1);
    Due.due("drawn(32, 33)", x.drawn(32, 33), -1);
    Due.due("drawn(32, 1)", x.drawn(32, 1), -1);
    Due.due("drawn(1, 32)", x.drawn(1, 32), -1);
  }

  private static void turned() {
    MarkOffice x = new MarkOffice();
    // Stroke 0, 0-1 of the upper row, by each WAY.
    int[] first = {0, 8, 5, 9, 1, 11, 4, 6};
    // Stroke 13, 1-5, by each WAY.
    int[] slanting = {13, 19, 14, 16, 16, 13, 19, 14};
    for (int way = 0; way < 8; way++) {
      Due.due("turned(1, " + way + ")", x.turned(1, way), 1 << first[way]);
      Due.due("turned(8192, " + way + ")", x.turned(1 << 13, way), 1 << slanting[way]);
      Due.due("turned(8193, " + way + ")", x.turned(1 << 13 | 1, way),
          1 << slanting[way] | 1 << first[way]);
      Due.due("turned(all, " + way + ")", x.turned(ALL, way), ALL);
      Due.due("turned(none, " + way + ")", x.turned(0, way), 0);
    }
    Due.due("turned(1, 8)", x.turned(1, 8), -1);
    Due.due("turned(1, -1)", x.turned(1, -1), -1);
    Due.due("turned(-1, 0)", x.turned(-1, 0), -1);
    Due.due("turned(2^20, 0)", x.turned(1 << 20, 0), -1);
    everyStroke();
  }

  private static void everyStroke() {
    MarkOffice x = new MarkOffice();
    for (int way = 0; way < 8; way++) {
      for (int stroke = 0; stroke < 20; stroke++) {
        Due.due("turned(stroke " + stroke + ", " + way + ")",
            x.turned(1 << stroke, way), PlainOffice.by(1 << stroke, way));
      }
    }
  }

  private static void joined() {
    MarkOffice x = new MarkOffice();
    int uneven = 1 | 1 << 3 | 1 << 12;
    for (int first = 0; first < 8; first++) {
      for (int then = 0; then < 8; then++) {
        int both = x.turned(x.turned(uneven, first), then);
        Due.due("joined(" + first + ", " + then + ")", x.turned(uneven, x.joined(first, then)), both);
      }
    }
    Due.due("joined(5, 2)", x.joined(5, 2), 7);
    Due.due("joined(2, 5)", x.joined(2, 5), 7);
    Due.due("joined(1, 5)", x.joined(1, 5), 4);
    Due.due("joined(5, 1)", x.joined(5, 1), 6);
    Due.due("joined(8, 0)", x.joined(8, 0), -1);
    Due.due("joined(0, 8)", x.joined(0, 8), -1);
    Due.due("joined(-1, 0)", x.joined(-1, 0), -1);
    Due.due("joined(0, -1)", x.joined(0, -1), -1);
  }

  private static void own() {
    MarkOffice x = new MarkOffice();
    Due.due("own(none)", x.own(0), 255);
    Due.due("own(all)", x.own(ALL), 255);
    Due.due("own(frame)", x.own(2931), 255);
    Due.due("own(stroke 0)", x.own(1), 1);
    // The upper row stays when tipped, the middle row when turned twice, too.
    Due.due("own(upper row)", x.own(3), 1 | 1 << 4);
    Due.due("own(middle row)", x.own(12), 1 | 1 << 2 | 1 << 4 | 1 << 6);
    // A wheel: strokes 0, 8, 5, 9.
    Due.due("own(wheel)", x.own(1 | 1 << 8 | 1 << 5 | 1 << 9), 15);
    Due.due("own(stroke 13)", x.own(1 << 13), 1 | 1 << 5);
    Due.due("own(-1)", x.own(-1), -1);
    Due.due("own(2^20)", x.own(1 << 20), -1);
  }

  private static void least() {
    MarkOffice x = new MarkOffice();
    Due.due("least(0)", x.least(0), 0);
    Due.due("least(all)", x.least(ALL), ALL);
    for (int stroke : new int[] {0, 1, 4, 5, 6, 8, 9, 11}) {
      Due.due("least(rim " + stroke + ")", x.least(1 << stroke), 1);
    }
    for (int stroke : new int[] {2, 3, 7, 10}) {
      Due.due("least(spoke " + stroke + ")", x.least(1 << stroke), 4);
    }
    for (int stroke : new int[] {12, 15, 17, 18}) {
      Due.due("least(to a corner " + stroke + ")", x.least(1 << stroke), 1 << 12);
    }
    for (int stroke : new int[] {13, 14, 16, 19}) {
      Due.due("least(between sides " + stroke + ")", x.least(1 << stroke), 1 << 13);
    }
    Due.due("least(2^20)", x.least(1 << 20), -1);
    Due.due("least(-5)", x.least(-5), -1);
  }

  private static void pens() {
    MarkOffice x = new MarkOffice();
    Due.due("pens(none)", x.pens(0), 0);
    Due.due("pens(frame)", x.pens(2931), 1);
    // Three strokes at point 1.
    Due.due("pens(1)", x.pens(1 | 2 | 1 << 7), 2);
    // A cross over the middle with the slanting ones: eight ends.
    Due.due("pens(star)", x.pens(12 | 1 << 7 | 1 << 10 | 1 << 12 | 1 << 15 | 1 << 17 | 1 << 18), 4);
    Due.due("pens(all)", x.pens(ALL), 4);
    // A closed piece and one with two ends.
    Due.due("pens(two pieces)", x.pens(1 | 1 << 6 | 1 << 16 | 1 << 5), 2);
    Due.due("pens(-1)", x.pens(-1), -1);
    Due.due("pens(2^20)", x.pens(1 << 20), -1);
  }

  private static void trail(int strokes, int... points) {
    MarkOffice x = new MarkOffice();
    Due.due("trail(" + strokes + ", -1)", x.trail(strokes, -1), points.length);
    for (int i = 0; i < points.length; i++) {
      Due.due("trail(" + strokes + ", " + i + ")", x.trail(strokes, i), points[i]);
    }
    Due.due("trail(" + strokes + ", its length)", x.trail(strokes, points.length), -2);
    Due.due("trail(" + strokes + ", -2)", x.trail(strokes, -2), -2);
  }

  private static void trails() {
    trail(1, 0, 1);
    trail(2931, 0, 1, 2, 5, 8, 7, 6, 3, 0);
    // 1-2 and 2-5 and 5-1: closed, from 1 on.
    trail(2 | 1 << 8 | 1 << 13, 1, 2, 5, 1);
    // A tail 0-1 on the triangle 1-2-5: it starts at the odd point 0.
    trail(3 | 1 << 8 | 1 << 13, 0, 1, 2, 5, 1);
    // The triangle 0-1-3 with a tail 1-2: not 0 but 1 is odd; from 1 to 0 first, since 2 is the end.
    trail(1 | 1 << 6 | 1 << 16 | 2, 1, 0, 3, 1, 2);
    // From 4 the lowest next is 0, but then 1, 5 and 4 would be left.
    trail(1 | 1 << 16 | 1 << 2 | 1 << 7 | 1 << 3 | 1 << 13 | 1 << 12, 0, 1, 3, 4, 1, 5, 4, 0);
    MarkOffice x = new MarkOffice();
    Due.due("trail(none, -1)", x.trail(0, -1), -2);
    Due.due("trail(two pieces, -1)", x.trail(1 | 1 << 5, -1), -2);
    Due.due("trail(all, -1)", x.trail(ALL, -1), -2);
    Due.due("trail(-1, -1)", x.trail(-1, -1), -2);
    Due.due("trail(2^20, 0)", x.trail(1 << 20, 0), -2);
  }

  private static void rim() {
    MarkOffice x = new MarkOffice();
    Due.due("rim(none)", x.rim(0), 0);
    Due.due("rim(0-1)", x.rim(1), 3);
    Due.due("rim(5-7)", x.rim(1 << 19), 1 << 5 | 1 << 7);
    Due.due("rim(0-1-2)", x.rim(3), 1 | 1 << 2);
    // Three at point 1 are no more just one.
    Due.due("rim(three at 1)", x.rim(3 | 1 << 7), 1 | 1 << 2 | 1 << 4);
    Due.due("rim(all)", x.rim(ALL), 0);
    Due.due("rim(-1)", x.rim(-1), -1);
    Due.due("rim(2^20)", x.rim(1 << 20), -1);
  }

  private static void kinds() {
    MarkOffice x = new MarkOffice();
    PlainOffice plain = new PlainOffice();
    Due.due("kinds(0)", x.kinds(0), 1);
    Due.due("kinds(1)", x.kinds(1), 4);
    Due.due("kinds(20)", x.kinds(20), 1);
    for (int n = -1; n <= 21; n++) {
      Due.due("kinds(" + n + ")", x.kinds(n), plain.kinds(n));
    }
    for (int n = 0; n <= 20; n++) {
      Due.due("kinds(" + n + ") as of those left out", x.kinds(n), x.kinds(20 - n));
    }
    Due.due("kinds(lowest int)", x.kinds(Integer.MIN_VALUE), -1);
  }

  /** PENS by trying all lines, of all sets of up to three strokes and some of six. */
  private static void smallSetsByTrying() {
    MarkOffice x = new MarkOffice();
    for (int a = 0; a < 20; a++) {
      for (int b = 0; b <= a; b++) {
        for (int c = 0; c <= b; c++) {
          int set = 1 << a | 1 << b | 1 << c;
          int more = set | 1 << (a + 7) % 20 | 1 << (b + 3) % 20 | 1 << (c + 13) % 20;
          // One object is asked 512 times at most.
          x = (a * 20 + b) % 8 == 0 && c == 0 ? new MarkOffice() : x;
          Due.due("pens(" + set + ")", x.pens(set), PlainOffice.pensTried(set));
          Due.due("pens(" + more + ")", x.pens(more), PlainOffice.pensTried(more));
        }
      }
    }
  }
}
