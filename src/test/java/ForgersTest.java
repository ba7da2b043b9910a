/** Promises 28 to 33 and 41: marks against marks, clashes, chains, free marks, marks apart. */
public final class ForgersTest {
  private static final int ALL = (1 << 20) - 1;

  public static void main(String[] args) {
    alike();
    made();
    clash();
    chain();
    free();
    apart();
    otherArguments();
    Due.close("ForgersTest");
  }

  private static MarkOffice of(int... marks) {
    MarkOffice x = new MarkOffice();
    for (int strokes : marks) {
      x.mark(strokes);
    }
    return x;
  }

  private static void alike(MarkOffice x, int a, int b, int apart, int way) {
    Due.due("alike(" + a + ", " + b + ")", x.alike(a, b), apart);
    Due.due("way(" + a + ", " + b + ")", x.way(a, b), way);
  }

  private static void alike() {
    // Stroke 8 is stroke 0 by one quarter turn; stroke 0 is stroke 8 by three.
    MarkOffice x = of(1 << 8, 1, 0, ALL, 1 | 1 << 2);
    alike(x, 0, 1, 0, 1);
    alike(x, 1, 0, 0, 3);
    alike(x, 0, 0, 0, 0);
    alike(x, 2, 1, 1, 0);
    alike(x, 3, 2, 20, 0);
    alike(x, 4, 0, 1, 3);
    alike(x, 4, 3, 18, 0);
    // As they are now.
    x.rub(0, 8);
    x.add(0, 13);
    alike(x, 0, 1, 2, 0);
    x.add(1, 16);
    alike(x, 0, 1, 1, 1);
    // The lowest WAY, of a mark that tipping leaves as it is.
    MarkOffice y = of(48, 3);
    alike(y, 0, 1, 0, 2);
  }

  private static void made(MarkOffice x, int a, int b, int by, int way) {
    Due.due("made(" + a + ", " + b + ", false)", x.made(a, b, false), by);
    Due.due("made(" + a + ", " + b + ", true)", x.made(a, b, true), way);
  }

  private static void made() {
    MarkOffice x = of(1 << 8, 1 | 1 << 2, 0, ALL);
    made(x, 0, 1, 1, 1);
    made(x, 1, 0, -1, -1);
    made(x, 0, 0, 0, 0);
    made(x, 2, 1, 2, 0);
    made(x, 1, 3, 18, 0);
    made(x, 3, 1, -1, -1);
    // As they are now.
    x.rub(1, 0);
    made(x, 0, 1, -1, -1);
    made(x, 1, 1, 0, 0);
    // As many strokes, but others.
    MarkOffice y = of(1 << 12, 1);
    made(y, 0, 1, -1, -1);
  }

  private static void clash(MarkOffice x, int k, int one, int other) {
    Due.due("clash(" + k + ", false)", x.clash(k, false), one);
    Due.due("clash(" + k + ", true)", x.clash(k, true), other);
  }

  private static void clash() {
    clash(of(), 20, -1, -1);
    clash(of(1), 20, -1, -1);
    MarkOffice x = of(1 << 12, 7, 1 << 13 | 1, 48, 1 << 5);
    clash(x, 0, -1, -1);
    // 3 can be made of 4, 1 of 3, 2 of 4 by one each: the lowest one is 1, its lowest other 3.
    clash(x, 1, 1, 3);
    // 1 can be made of 4 by two, but 1 and 3 come first.
    clash(x, 2, 1, 3);
    MarkOffice y = of(7, 1 << 12, 1 << 5);
    clash(y, 1, -1, -1);
    clash(y, 2, 0, 2);
    // As registered, whatever they are now.
    y.rub(0, 0);
    y.rub(0, 1);
    y.rub(0, 2);
    clash(y, 1, -1, -1);
    clash(of(5, 5), 0, 0, 1);
    clash(of(5, ALL, 5), 0, 0, 2);
    clash(of(0, ALL), 19, -1, -1);
    clash(of(0, ALL), 20, 0, 1);
    clash(of(5, 5), -1, -1, -1);
    clash(of(5, 5), 21, -1, -1);
  }

  private static void chain() {
    MarkOffice x = of(1, 3, 7, 15, ALL);
    Due.due("chain(0, 3, 1)", x.chain(0, 3, 1), 3);
    Due.due("chain(0, 3, 2)", x.chain(0, 3, 2), 2);
    Due.due("chain(0, 3, 3)", x.chain(0, 3, 3), 1);
    Due.due("chain(3, 0, 20)", x.chain(3, 0, 20), -1);
    Due.due("chain(0, 4, 15)", x.chain(0, 4, 15), -1);
    Due.due("chain(0, 4, 16)", x.chain(0, 4, 16), 2);
    Due.due("chain(2, 2, 0)", x.chain(2, 2, 0), 0);
    Due.due("chain(0, 1, 0)", x.chain(0, 1, 0), -1);
    // Now, not as registered.
    x.rub(1, 0);
    Due.due("chain(0, 3, 1) no more", x.chain(0, 3, 1), -1);
    Due.due("chain(0, 1, 0)", x.chain(0, 1, 0), 1);
    Due.due("chain(0, 3, 2)", x.chain(0, 3, 2), 2);
    x.rub(2, 0);
    x.rub(2, 1);
    Due.due("chain(0, 3, 1) no more", x.chain(0, 3, 1), -1);
    MarkOffice y = of(1, 1 << 8, 1, 2);
    Due.due("chain(0, 3, 0)", y.chain(0, 3, 0), 1);
    MarkOffice z = of(1, 3, 7, 15, 31, 63, 127, 255);
    Due.due("chain(0, 7, 1)", z.chain(0, 7, 1), 7);
    Due.due("chain(7, 0, 1)", z.chain(7, 0, 1), -1);
    MarkOffice down = of(255, 127, 63, 31, 15, 7, 3, 1);
    Due.due("chain(7, 0, 1)", down.chain(7, 0, 1), 7);
    Due.due("chain(7, 0, 7)", down.chain(7, 0, 7), 1);
    Due.due("clash(0, false) of eight", down.clash(0, false), -1);
    Due.due("clash(1, true) of eight", down.clash(1, true), 1);
  }

  private static void free() {
    for (int n = 0; n <= 4; n++) {
      Due.due("free(" + n + ", 20) without marks", of().free(n, 20), (1 << n) - 1);
    }
    Due.due("free(0, 1) of a stroke", of(1).free(0, 1), -1);
    Due.due("free(0, 0) of a stroke", of(1).free(0, 0), 0);
    Due.due("free(0, 0) of none", of(0).free(0, 0), -1);
    // 2, the first spoke, is the lowest that isn't stroke 0 by some WAY.
    Due.due("free(1, 0)", of(1 << 9).free(1, 0), 4);
    // Of two strokes by one more: a spoke alone and stroke 0 can be made into it.
    Due.due("free(1, 1)", of(5).free(1, 1), 1 << 12);
    Due.due("free(1, 0) of 5", of(5).free(1, 0), 1);
    // A mark of none can be made into any.
    Due.due("free(4, 3)", of(0).free(4, 3), 15);
    Due.due("free(4, 4)", of(0).free(4, 4), -1);
    Due.due("free(4, 15) of all", of(ALL).free(4, 15), 15);
    Due.due("free(4, 16) of all", of(ALL).free(4, 16), -1);
    // As registered.
    MarkOffice x = of(1);
    x.rub(0, 0);
    Due.due("free(1, 0) as registered", x.free(1, 0), 4);
    // The lowest as a number: of strokes 2, 3, 7, 10 and 12 .. 19 when none of the rim can be in it.
    Due.due("free(3, 2) of a rim stroke", of(1).free(3, 2), 1 << 2 | 1 << 3 | 1 << 7);
    Due.due("free(2, 1) of a rim stroke and a spoke", of(1, 4).free(2, 1), 3 << 12);
  }

  private static void apart() {
    long[] sets = {1, 20, 190, 1140, 4845};
    for (int n = 0; n <= 4; n++) {
      Due.due("apart(" + n + ", 20) without marks", of().apart(n, 20), sets[n]);
      Due.due("apart(" + n + ", 0)", of(3, 5).apart(n, 0), sets[n]);
      Due.due("apart(" + n + ", " + n + ") of none", of(0).apart(n, n), sets[n]);
      Due.due("apart(" + n + ", " + (n + 1) + ") of none", of(0).apart(n, n + 1), 0);
    }
    // Eight of the twenty are stroke 0 by some WAY.
    Due.due("apart(1, 1)", of(1).apart(1, 1), 12);
    Due.due("apart(1, 2)", of(1).apart(1, 2), 12);
    Due.due("apart(1, 3)", of(1).apart(1, 3), 0);
    Due.due("apart(1, 1) of two", of(1, 4).apart(1, 1), 8);
    // Sets of two without one of the eight: 12 * 11 / 2.
    Due.due("apart(2, 2)", of(1).apart(2, 2), 66);
    // As registered.
    MarkOffice x = of(1);
    x.add(0, 12);
    Due.due("apart(1, 1) as registered", x.apart(1, 1), 12);
  }

  private static void otherArguments() {
    MarkOffice x = of(1, 2);
    int[][] others = {{0, 2}, {2, 0}, {-1, 0}, {0, -1}, {8, 8}, {Integer.MAX_VALUE, 0}};
    for (int[] ab : others) {
      alike(x, ab[0], ab[1], -1, -1);
      made(x, ab[0], ab[1], -1, -1);
      Due.due("chain of others", x.chain(ab[0], ab[1], 20), -1);
    }
    Due.due("chain(32, 0, 20)", x.chain(32, 0, 20), -1);
    Due.due("chain(0, 32, 20)", x.chain(0, 32, 20), -1);
    Due.due("chain(0, 0, -1)", x.chain(0, 0, -1), -1);
    Due.due("chain(0, 0, 21)", x.chain(0, 0, 21), -1);
    Due.due("chain(0, 1, 20)", x.chain(0, 1, 20), 1);
    int[][] numbers = {{-1, 0}, {5, 0}, {0, -1}, {0, 21}, {Integer.MIN_VALUE, 0}};
    for (int[] nk : numbers) {
      Due.due("free(" + nk[0] + ", " + nk[1] + ")", x.free(nk[0], nk[1]), -1);
      Due.due("apart(" + nk[0] + ", " + nk[1] + ")", x.apart(nk[0], nk[1]), -1);
    }
    Due.due("free(2, 20)", of().free(2, 20), 3);
  }
}
