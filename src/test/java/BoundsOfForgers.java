/** Part III of the terms as far as marks are held against marks, and promises 28 to 33 and 41. */
final class BoundsOfForgers {
  private static final int ALL = Offices.ALL;
  private static final int[] NO_MARKS = {-1, 2, 8, 32, Offices.LOWEST, Offices.HIGHEST};
  private static final int[] NO_STROKES = {-1, 21, 32, Offices.LOWEST, Offices.HIGHEST};
  private static final int[] NO_SIZES = {-1, 5, 32, Offices.LOWEST, Offices.HIGHEST};

  private BoundsOfForgers() {}

  static void look() {
    alike();
    lowestWay();
    made();
    clash();
    lowestClash();
    chain();
    free();
    lowestFree();
    apart();
    alikePromised();
    madePromised();
    clashPromised();
    chainPromised();
    freePromised();
    apartPromised();
  }

  private static void alike(MarkOffice x, int a, int b, int apart, int way) {
    Due.due("alike(" + a + ", " + b + ")", x.alike(a, b), apart);
    Due.due("way(" + a + ", " + b + ")", x.way(a, b), way);
  }

  private static void alike() {
    Sentences.terms("ALIKE: of two MARKS as they are now, the fewest strokes in one but not the other, "
        + "the second by any WAY;");
    // 2-5 is 0-1 by one quarter turn; 0-1 is 2-5 by three.
    MarkOffice x = Offices.of(1 << 8, 1, 0, ALL);
    alike(x, 0, 1, 0, 1);
    alike(x, 1, 0, 0, 3);
    alike(x, 3, 2, 20, 0);
    alike(x, 2, 3, 20, 0);
    alike(x, 3, 1, 19, 0);
    // Both those that the first has alone and those that the second has.
    alike(Offices.of(1 << 12, 1), 0, 1, 2, 0);
    alike(Offices.of(1 | 1 << 12, 1 | 1 << 2 | 1 << 3), 0, 1, 3, 0);
    // As they are now.
    x.rub(0, 8);
    x.add(0, 13);
    alike(x, 0, 1, 2, 0);
    x.add(1, 16);
    alike(x, 0, 1, 1, 1);
  }

  private static void lowestWay() {
    Sentences.terms("the lowest WAY (of one and itself 0, 0;");
    alike(Offices.of(48, 3), 0, 1, 0, 2);
    alike(Offices.of(1 << 11, 1), 0, 1, 0, 5);
    for (int strokes : new int[] {0, 1, 13, 2931, ALL}) {
      alike(Offices.of(strokes, strokes), 0, 0, 0, 0);
      alike(Offices.of(strokes, strokes), 0, 1, 0, 0);
    }
    Sentences.terms("MADE likewise)");
    for (int strokes : new int[] {0, 1, 13, 2931, ALL}) {
      made(Offices.of(strokes), 0, 0, 0, 0);
    }
  }

  private static void made(MarkOffice x, int a, int b, int by, int way) {
    Due.due("made(" + a + ", " + b + ", false)", x.made(a, b, false), by);
    Due.due("made(" + a + ", " + b + ", true)", x.made(a, b, true), way);
  }

  private static void made() {
    Sentences.terms("MADE: by how many strokes added (0, too) the first is the second by some WAY;");
    MarkOffice x = Offices.of(1 << 8, 1 | 1 << 2, 0, ALL, 1);
    made(x, 0, 1, 1, 1);
    made(x, 0, 4, 0, 1);
    made(x, 2, 3, 20, 0);
    made(x, 1, 3, 18, 0);
    Sentences.terms("the lowest such WAY (of the second);");
    made(x, 4, 0, 0, 3);
    // The upper row in the lower one: by WAYS 2 and 6.
    made(Offices.of(48, 3), 0, 1, 0, 2);
    made(Offices.of(1 << 6, 1), 0, 1, 0, 7);
    Sentences.terms("never.");
    made(x, 1, 0, -1, -1);
    made(x, 3, 1, -1, -1);
    made(x, 0, 2, -1, -1);
    // As many strokes, or more, but others.
    made(Offices.of(1 << 12, 1), 0, 1, -1, -1);
    made(Offices.of(1 << 12, 2931), 0, 1, -1, -1);
    x.rub(1, 0);
    made(x, 0, 1, -1, -1);
  }

  private static void clash(MarkOffice x, int k, int one, int other) {
    Due.due("clash(" + k + ", false)", x.clash(k, false), one);
    Due.due("clash(" + k + ", true)", x.clash(k, true), other);
  }

  private static void clash() {
    Sentences.terms("A CLASH: two MARKS as registered of which the one can be MADE of the other by k strokes at most");
    MarkOffice x = Offices.of(1, 7 << 4);
    clash(x, 1, -1, -1);
    clash(x, 2, 0, 1);
    clash(x, 3, 0, 1);
    x.add(0, 12);
    clash(x, 2, 0, 1);
    clash(Offices.of(0, ALL), 19, -1, -1);
    clash(Offices.of(0, ALL), 20, 0, 1);
    clash(Offices.of(1, 1 << 12), 20, -1, -1);
    Sentences.terms("(either of either;");
    clash(Offices.of(7 << 4, 1), 2, 0, 1);
    clash(Offices.of(ALL, 0), 20, 0, 1);
    Sentences.terms("by 0, too)");
    clash(Offices.of(5, 5), 0, 0, 1);
    clash(Offices.of(1, 1 << 8), 0, 0, 1);
    clash(Offices.of(0, 0), 0, 0, 1);
    clash(Offices.of(1, 3), 0, -1, -1);
  }

  private static void lowestClash() {
    Sentences.terms(": the lowest one, then the lowest other (above it);");
    // 3 of 4, 1 of 3 and 2 of 4 by one each, 1 of 4 by two: the lowest one is 1, its lowest other 3.
    MarkOffice x = Offices.of(1 << 12, 7, 1 << 13 | 1, 48, 1 << 5);
    clash(x, 1, 1, 3);
    clash(x, 2, 1, 3);
    clash(Offices.of(1 << 12, 1, 5, 1, 5), 0, 1, 3);
    clash(Offices.of(1 << 12, 1, 3, 5, 5), 0, 3, 4);
    clash(Offices.of(1 << 12, 1, 3, 5, 5), 1, 1, 2);
    clash(Offices.of(0, 1, 3, 7, 15, 31, 63, 63), 0, 6, 7);
    Sentences.terms("(above it); none.");
    clash(Offices.of(), 20, -1, -1);
    clash(Offices.of(1), 20, -1, -1);
    clash(Offices.of(1, 1 << 12, 1 << 13, 4), 20, -1, -1);
  }

  private static void chain(MarkOffice x, int a, int b, int k, int steps) {
    Due.due("chain(" + a + ", " + b + ", " + k + ")", x.chain(a, b, k), steps);
  }

  private static void chain() {
    Sentences.terms("A CHAIN from a MARK to another, now: the fewest steps over MARKS, "
        + "each MADE of the one ahead by k strokes at most");
    MarkOffice x = Offices.of(1, 3, 7, 15, ALL);
    chain(x, 0, 3, 1, 3);
    chain(x, 0, 3, 2, 2);
    chain(x, 0, 3, 3, 1);
    chain(x, 0, 4, 16, 2);
    // Over MARKS of higher numbers, too, and over all of them.
    MarkOffice down = Offices.of(255, 127, 63, 31, 15, 7, 3, 1);
    chain(down, 7, 0, 1, 7);
    chain(down, 7, 0, 7, 1);
    chain(Offices.of(1, 255, 15, 7, 3, 31, 127, 63), 0, 1, 1, 7);
    // Now, not as registered.
    x.rub(1, 0);
    chain(x, 0, 3, 1, -1);
    chain(x, 0, 1, 0, 1);
    Sentences.terms("(0 from itself)");
    for (int k = 0; k <= 20; k += 10) {
      chain(x, 2, 2, k, 0);
    }
    chain(Offices.of(5, 5), 0, 1, 0, 1);
    Sentences.terms("(0 from itself); none.");
    chain(x, 3, 0, 20, -1);
    chain(x, 0, 4, 15, -1);
    chain(x, 2, 3, 0, -1);
    chain(Offices.of(1, 1 << 12), 0, 1, 20, -1);
  }

  private static void free(MarkOffice x, int n, int k, int lowest) {
    Due.due("free(" + n + ", " + k + ")", x.free(n, k), lowest);
  }

  private static void free() {
    Sentences.terms("FREE: the lowest set of n strokes that can neither be MADE of any MARK as registered "
        + "by k strokes at most");
    // Whatever has one of the rim can be made of 0-1; the spokes and what slants are left.
    free(Offices.of(1), 3, 2, 1 << 2 | 1 << 3 | 1 << 7);
    free(Offices.of(1), 3, 1, 7);
    free(Offices.of(1, 4), 2, 1, 3 << 12);
    free(Offices.of(0), 4, 3, 15);
    free(Offices.of(0), 4, 4, -1);
    MarkOffice x = Offices.of(1);
    x.rub(0, 0);
    x.add(0, 12);
    free(x, 1, 0, 4);
    Sentences.terms("nor any of it");
    free(Offices.of(5), 1, 1, 1 << 12);
    free(Offices.of(5), 1, 0, 1);
    free(Offices.of(ALL), 4, 15, 15);
    free(Offices.of(ALL), 4, 16, -1);
  }

  private static void lowestFree() {
    Sentences.terms("(without MARKS the lowest of all)");
    for (int n = 0; n <= 4; n++) {
      free(Offices.of(), n, 0, (1 << n) - 1);
      free(Offices.of(), n, 20, (1 << n) - 1);
    }
    Sentences.terms("the lowest of all); none.");
    free(Offices.of(0), 0, 0, -1);
    free(Offices.of(1), 0, 0, 0);
    free(Offices.of(1), 0, 1, -1);
    free(Offices.of(1, 1 << 2, 1 << 12, 1 << 13), 1, 0, -1);
    free(Offices.of(1, 1 << 2, 1 << 12), 1, 0, 1 << 13);
    free(Offices.of(1, 1 << 2, 1 << 13), 1, 0, 1 << 12);
    // The highest of all sets of four: of those but one of 12 .. 19, and the rim and spokes made of others.
    free(Offices.of(1, 1 << 2, 1 << 12), 4, 3, 1 << 13 | 1 << 14 | 1 << 16 | 1 << 19);
    free(Offices.of(1, 1 << 2, 1 << 13), 4, 3, 1 << 12 | 1 << 15 | 1 << 17 | 1 << 18);
  }

  private static void apart(MarkOffice x, int n, int k, int sets) {
    Due.due("apart(" + n + ", " + k + ")", x.apart(n, k), sets);
  }

  private static void apart() {
    Sentences.terms("APART: how many sets of n strokes are k strokes at least from each MARK as registered "
        + "by all WAYS (as ALIKE is counted)");
    // Eight of the twenty are 0-1 by some WAY; two other strokes are two apart.
    apart(Offices.of(1), 1, 0, 20);
    apart(Offices.of(1), 1, 1, 12);
    apart(Offices.of(1), 1, 2, 12);
    apart(Offices.of(1), 1, 3, 0);
    apart(Offices.of(1, 4), 1, 1, 8);
    apart(Offices.of(1), 2, 2, 66);
    apart(Offices.of(0), 4, 4, 4845);
    apart(Offices.of(0), 4, 5, 0);
    apart(Offices.of(ALL), 4, 16, 4845);
    apart(Offices.of(ALL), 4, 17, 0);
    apart(Offices.of(ALL), 0, 20, 1);
    MarkOffice x = Offices.of(1);
    x.add(0, 12);
    x.rub(0, 0);
    apart(x, 1, 1, 12);
  }

  private static void alikePromised() {
    Sentences.promise(28, "ALIKE: how many strokes they are apart");
    MarkOffice x = Offices.of(1, 1 << 8);
    Due.due("alike(0, 1)", x.alike(0, 1), 0);
    x.add(1, 12);
    Due.due("alike(0, 1)", x.alike(0, 1), 1);
    Sentences.promise(28, "NONE for others (MARKS)");
    for (int other : NO_MARKS) {
      Due.due("alike(0, " + other + ")", x.alike(0, other), -1);
      Due.due("alike(" + other + ", 0)", x.alike(other, 0), -1);
      Due.due("alike(" + other + ", itself)", x.alike(other, other), -1);
    }
    Sentences.promise(29, "The WAY of ALIKE");
    x.undo();
    Due.due("way(0, 1)", x.way(0, 1), 3);
    Due.due("way(1, 0)", x.way(1, 0), 1);
    Sentences.promise(29, "NONE for others");
    for (int other : NO_MARKS) {
      Due.due("way(0, " + other + ")", x.way(0, other), -1);
      Due.due("way(" + other + ", 0)", x.way(other, 0), -1);
      Due.due("way(" + other + ", itself)", x.way(other, other), -1);
    }
  }

  private static void madePromised() {
    Sentences.promise(30, "MADE: by how many strokes (way false), the WAY (way true)");
    MarkOffice x = Offices.of(1 << 8, 1 | 1 << 2);
    made(x, 0, 1, 1, 1);
    Sentences.promise(30, "NONE: never");
    made(x, 1, 0, -1, -1);
    Sentences.promise(30, ", and for others");
    for (int other : NO_MARKS) {
      made(x, 0, other, -1, -1);
      made(x, other, 0, -1, -1);
      made(x, other, other, -1, -1);
    }
    made(Offices.of(), 0, 0, -1, -1);
  }

  private static void clashPromised() {
    Sentences.promise(31, "A CLASH: the one (second false), the other MARK (second true)");
    MarkOffice x = Offices.of(1 << 12, 1, 3);
    clash(x, 1, 1, 2);
    Sentences.promise(31, "NONE: none");
    clash(x, 0, -1, -1);
    Sentences.promise(31, ", and for others (0 .. 20)");
    for (int k : NO_STROKES) {
      clash(x, k, -1, -1);
    }
    clash(x, 20, 1, 2);
    clash(Offices.of(5, 5), -1, -1, -1);
    clash(Offices.of(5, 5), 0, 0, 1);
  }

  private static void chainPromised() {
    Sentences.promise(32, "A CHAIN: how many steps");
    MarkOffice x = Offices.of(1, 3);
    chain(x, 0, 1, 1, 1);
    chain(x, 0, 1, 20, 1);
    Sentences.promise(32, "NONE: none");
    chain(x, 1, 0, 20, -1);
    chain(x, 0, 1, 0, -1);
    Sentences.promise(32, ", and for others");
    for (int other : NO_MARKS) {
      chain(x, 0, other, 20, -1);
      chain(x, other, 0, 20, -1);
      chain(x, other, other, 20, -1);
    }
    // The k of a CLASH: no more and no less are told.
    for (int k : NO_STROKES) {
      chain(x, 0, 1, k, -1);
      chain(x, 0, 0, k, -1);
    }
  }

  private static void freePromised() {
    Sentences.promise(33, "FREE: the lowest (bits)");
    MarkOffice x = Offices.of(1, 0);
    free(Offices.of(1), 1, 0, 4);
    free(x, 4, 2, 15);
    Sentences.promise(33, "NONE: none");
    free(x, 1, 1, -1);
    free(x, 0, 0, -1);
    Sentences.promise(33, ", and for others (0 .. 4; 0 .. 20)");
    for (int n : NO_SIZES) {
      free(Offices.of(), n, 0, -1);
    }
    for (int k : NO_STROKES) {
      free(Offices.of(), 2, k, -1);
    }
    free(Offices.of(), 4, 20, 15);
    free(Offices.of(), 0, 0, 0);
  }

  private static void apartPromised() {
    Sentences.promise(41, "APART: how many MARKS of n strokes have none of the MARKS nearer than k");
    int[] sets = {1, 20, 190, 1140, 4845};
    for (int n = 0; n <= 4; n++) {
      apart(Offices.of(), n, 0, sets[n]);
      apart(Offices.of(), n, 20, sets[n]);
      apart(Offices.of(3, 5), n, 0, sets[n]);
      apart(Offices.of(0), n, n, sets[n]);
      apart(Offices.of(0), n, n + 1, 0);
    }
    Sentences.promise(41, "NONE for others (0 .. 4; 0 .. 20)");
    for (int n : NO_SIZES) {
      apart(Offices.of(), n, 0, -1);
    }
    for (int k : NO_STROKES) {
      apart(Offices.of(), 2, k, -1);
    }
  }
}
