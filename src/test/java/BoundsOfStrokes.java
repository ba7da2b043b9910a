/** Part III of the terms as far as it is of strokes, and promises 19 to 27 and 34. */
final class BoundsOfStrokes {
  private static final int ALL = Offices.ALL;
  private static final int FRAME = 2931;
  // Also such whose lower bits would do.
  private static final int[] NO_SETS = {-1, ALL + 1, ALL + 2, -ALL, Offices.LOWEST, Offices.LOWEST + 1,
      Offices.HIGHEST};
  private static final int[] NO_WAYS = {-1, 8, -8, 32, Offices.LOWEST, Offices.HIGHEST};

  private BoundsOfStrokes() {}

  static void look() {
    changesNothing();
    foretold();
    foretoldPromised();
    quarterTurns();
    tipped();
    waysJoined();
    ownAndLeast();
    endsAndPieces();
    holesAndCrossings();
    pens();
    trails();
    lowestTrails();
    rims();
    noStrokes();
    drawn();
    turnedAndJoined();
    ofSets();
    trailPromised();
    kinds();
  }

  private static void changesNothing() {
    Sentences.terms("All that follows changes nothing but what is told");
    MarkOffice x = Offices.busy();
    int[] seen = Offices.seen(x);
    x.foretold(60, 0);
    x.turned(7, 5);
    x.joined(3, 6);
    x.own(7);
    x.least(7);
    x.pens(7);
    x.trail(FRAME, 2);
    x.rim(7);
    x.alike(0, 1);
    x.way(0, 1);
    x.made(0, 1, true);
    x.clash(2, true);
    x.chain(0, 1, 9);
    x.free(2, 1);
    x.kinds(9);
    x.which();
    x.ask();
    x.game(1, FRAME);
    x.play(1, FRAME);
    x.apart(2, 3);
    x.whose();
    x.richest();
    x.worn();
    x.ledger(3);
    Offices.same("behind all questions", Offices.seen(x), seen);
  }

  private static void foretold() {
    Sentences.terms("FORETOLD behind n YEARS (1 .. 60;");
    MarkOffice x = Offices.under("wears 10;", ALL);
    // 431: stroke 11 is drawn, 13497: 7 of 10.
    Due.due("foretold(1, 0)", x.foretold(1, 0), ALL & ~(1 << 11));
    int[] then = {x.foretold(1, 0), x.foretold(2, 0), x.foretold(60, 0)};
    Due.due("foretold(0, 0)", x.foretold(0, 0), -1);
    Due.due("foretold(61, 0)", x.foretold(61, 0), -1);
    x.year(1);
    Due.due("of(0, 0) behind 1", x.of(0, 0), then[0]);
    x.year(1);
    Due.due("of(0, 0) behind 2", x.of(0, 0), then[1]);
    x.year(58);
    Due.due("of(0, 0) behind 60", x.of(0, 0), then[2]);
    Sentences.terms("; those that can pass)");
    MarkOffice y = Offices.under("wears 10;", ALL);
    Offices.pass(y, 9998);
    y.renew(0);
    int one = y.foretold(1, 0);
    Due.due("foretold(60, 0), one can pass", y.foretold(60, 0), one);
    y.year(1);
    Due.due("of(0, 0)", y.of(0, 0), one);
    Due.due("foretold(1, 0), none can pass", y.foretold(1, 0), one);
    Due.due("foretold(60, 0), none can pass", y.foretold(60, 0), one);
    Sentences.terms(", nothing else being done");
    MarkOffice z = Offices.busy();
    int[] seen = Offices.seen(z);
    int first = z.foretold(60, 2);
    Offices.same("behind foretold", Offices.seen(z), seen);
    Due.due("foretold(60, 2) again", z.foretold(60, 2), first);
  }

  private static void foretoldPromised() {
    Sentences.promise(19, "FORETOLD: its strokes (bits)");
    MarkOffice x = Offices.under("wears if number=1 then 10 else 0 end;", 0, ALL);
    // MARK 0 draws 431; MARK 1 draws 13497: stroke 17, then 29024: 4 of 10.
    Due.due("foretold(1, 0)", x.foretold(1, 0), 0);
    Due.due("foretold(1, 1)", x.foretold(1, 1), ALL & ~(1 << 17));
    Sentences.promise(19, "NONE for others");
    int[][] others = {{0, 0}, {61, 0}, {-1, 0}, {Offices.HIGHEST, 0}, {Offices.LOWEST, 0},
        {1, 2}, {1, -1}, {60, 8}, {1, Offices.HIGHEST}, {1, Offices.LOWEST}};
    for (int[] other : others) {
      Due.due("foretold(" + other[0] + ", " + other[1] + ")", x.foretold(other[0], other[1]), -1);
    }
    Due.due("foretold(60, 1)", x.foretold(60, 1) >= 0, true);
  }

  private static void quarterTurns() {
    Sentences.terms("WAYS 0 .. 7: ");
    MarkOffice x = new MarkOffice();
    Due.due("turned(1, 0)", x.turned(1, 0), 1);
    Due.due("turned(1, 7)", x.turned(1, 7), 1 << 6);
    Due.due("turned(1, 8)", x.turned(1, 8), -1);
    Due.due("turned(1, -1)", x.turned(1, -1), -1);
    Sentences.terms("0 to 3 so many quarter turns (each: row r, column c comes to row c, column 2 less r)");
    // 0-1 comes to 2-5, 8-7, 6-3; 1-5 to 5-7, 7-3, 3-1.
    int[] first = {0, 8, 5, 9};
    int[] slanting = {13, 19, 14, 16};
    for (int way = 0; way < 4; way++) {
      Due.due("turned(0-1, " + way + ")", x.turned(1, way), 1 << first[way]);
      Due.due("turned(1-5, " + way + ")", x.turned(1 << 13, way), 1 << slanting[way]);
    }
  }

  private static void tipped() {
    Sentences.terms("4 to 7 tipped first (column c comes to 2 less c), then 0 to 3 quarter turns");
    MarkOffice x = new MarkOffice();
    int[] first = {1, 11, 4, 6};
    int[] slanting = {16, 13, 19, 14};
    for (int way = 4; way < 8; way++) {
      Due.due("turned(0-1, " + way + ")", x.turned(1, way), 1 << first[way - 4]);
      Due.due("turned(1-5, " + way + ")", x.turned(1 << 13, way), 1 << slanting[way - 4]);
    }
    Sentences.terms("TURNED: strokes by a WAY");
    for (int way = 0; way < 8; way++) {
      for (int stroke = 0; stroke < 20; stroke++) {
        int[] points = PlainOffice.pointsOf(stroke);
        int a = PlainOffice.pointBy(points[0], way);
        int b = PlainOffice.pointBy(points[1], way);
        Due.due("turned(stroke " + stroke + ", " + way + ")",
            x.turned(1 << stroke, way), 1 << x.drawn(a, b));
      }
      Due.due("turned(all, " + way + ")", x.turned(ALL, way), ALL);
      Due.due("turned(none, " + way + ")", x.turned(0, way), 0);
    }
  }

  private static void waysJoined() {
    Sentences.terms("Two WAYS joined (the first first) are one");
    MarkOffice x = new MarkOffice();
    int uneven = 1 | 1 << 3 | 1 << 12;
    for (int first = 0; first < 8; first++) {
      for (int then = 0; then < 8; then++) {
        int both = x.turned(x.turned(uneven, first), then);
        Due.due("joined(" + first + ", " + then + ")", x.turned(uneven, x.joined(first, then)), both);
      }
    }
    Due.due("joined(1, 4)", x.joined(1, 4), 7);
    Due.due("joined(4, 1)", x.joined(4, 1), 5);
  }

  private static void ownAndLeast() {
    Sentences.terms("OWN: WAYS by which strokes are the same");
    MarkOffice x = new MarkOffice();
    Due.due("own(0-1)", x.own(1), 1);
    Due.due("own(upper row)", x.own(3), 1 | 1 << 4);
    Due.due("own(middle row)", x.own(12), 1 | 1 << 2 | 1 << 4 | 1 << 6);
    Due.due("own(wheel)", x.own(1 | 1 << 8 | 1 << 5 | 1 << 9), 15);
    Due.due("own(1-5)", x.own(1 << 13), 1 | 1 << 5);
    Due.due("own(0-4)", x.own(1 << 12), 1 | 1 << 7);
    Due.due("own(frame)", x.own(FRAME), 255);
    Sentences.terms("LEAST: the lowest (as a number) of all WAYS");
    int[] least = {1, 1, 4, 4, 1, 1, 1, 4, 1, 1, 4, 1,
        1 << 12, 1 << 13, 1 << 13, 1 << 12, 1 << 13, 1 << 12, 1 << 12, 1 << 13};
    for (int stroke = 0; stroke < 20; stroke++) {
      Due.due("least(stroke " + stroke + ")", x.least(1 << stroke), least[stroke]);
    }
    Due.due("least(lower row)", x.least(48), 3);
    Due.due("least(all but stroke 19)", x.least(ALL & ~(1 << 19)), ALL & ~(1 << 19));
    Due.due("least(all but stroke 0)", x.least(ALL & ~1), ALL & ~(1 << 11));
  }

  private static int of(int strokes, int what) {
    return Offices.of(strokes).of(0, what);
  }

  private static void endsAndPieces() {
    Sentences.terms("ENDS: points with an odd number of them");
    Due.due("ends of 0-1", of(1, 3), 2);
    Due.due("ends of the frame", of(FRAME, 3), 0);
    Due.due("ends, three at point 1", of(3 | 1 << 7, 3), 4);
    Due.due("ends of all", of(ALL, 3), 8);
    Sentences.terms("PIECES: sets of points that they join (points without any aside)");
    Due.due("pieces of 0-1", of(1, 4), 1);
    Due.due("pieces of 0-1 and 7-8", of(1 | 1 << 5, 4), 2);
    Due.due("pieces of 0-1 and 1-2", of(3, 4), 1);
    // 0-3, 1-4, 2-5 and 7-8: as many as there can be.
    Due.due("four pieces", of(1 << 6 | 1 << 7 | 1 << 8 | 1 << 5, 4), 4);
    // Those that cross share no point.
    Due.due("pieces of 0-4 and 1-3", of(1 << 12 | 1 << 16, 4), 2);
    // A snake through all nine, found from its end only step by step.
    Due.due("pieces of a snake", of(3 | 1 << 8 | 12 | 1 << 9 | 48, 4), 1);
    Due.due("pieces of all", of(ALL, 4), 1);
  }

  private static void holesAndCrossings() {
    Sentences.terms("HOLES: strokes and PIECES less points that have any");
    Due.due("holes of 0-1", of(1, 5), 0);
    Due.due("holes of the frame", of(FRAME, 5), 1);
    Due.due("holes of a triangle and 7-8", of(1 | 1 << 6 | 1 << 16 | 1 << 5, 5), 1);
    Due.due("holes of two triangles", of(1 | 1 << 6 | 1 << 16 | 1 << 5 | 1 << 11 | 1 << 19, 5), 2);
    Due.due("holes of all", of(ALL, 5), 12);
    Sentences.terms("CROSSINGS: how many pairs cross inside a square");
    for (int square = 0; square < 4; square++) {
      Due.due("crossings of a square's two", of(1 << 12 + square | 1 << 16 + square, 6), 1);
      Due.due("crossings of two squares'", of(1 << 12 + square | 1 << 16 + (square + 1) % 4, 6), 0);
    }
    Due.due("crossings of all but these", of((1 << 16) - 1, 6), 0);
    Due.due("crossings of all", of(ALL, 6), 4);
  }

  private static void pens() {
    Sentences.terms("PENS: how few lines without lifting draw each stroke once (0 of none)");
    MarkOffice x = new MarkOffice();
    Due.due("pens(none)", x.pens(0), 0);
    Due.due("pens(0-1)", x.pens(1), 1);
    Due.due("pens(frame)", x.pens(FRAME), 1);
    Due.due("pens(three at point 1)", x.pens(3 | 1 << 7), 2);
    int star = 12 | 1 << 7 | 1 << 10 | 1 << 12 | 1 << 15 | 1 << 17 | 1 << 18;
    Due.due("pens(star)", x.pens(star), 4);
    // Each piece by itself, a closed one takes a pen, too.
    Due.due("pens(triangle and 7-8)", x.pens(1 | 1 << 6 | 1 << 16 | 1 << 5), 2);
    Due.due("pens(four pieces)", x.pens(1 << 6 | 1 << 7 | 1 << 8 | 1 << 5), 4);
    Due.due("pens(all)", x.pens(ALL), 4);
  }

  private static void trail(int strokes, int... points) {
    MarkOffice x = new MarkOffice();
    Due.due("trail(" + strokes + ", -1)", x.trail(strokes, -1), points.length);
    for (int i = 0; i < points.length; i++) {
      Due.due("trail(" + strokes + ", " + i + ")", x.trail(strokes, i), points[i]);
    }
    Due.due("trail(" + strokes + ", behind the last)", x.trail(strokes, points.length), -2);
  }

  private static void trails() {
    Sentences.terms("A TRAIL: one line that does (PENS 1)");
    trail(1, 0, 1);
    trail(FRAME, 0, 1, 2, 5, 8, 7, 6, 3, 0);
    MarkOffice x = new MarkOffice();
    Due.due("trail, two pens", x.trail(3 | 1 << 7, -1), -2);
    Due.due("trail, two pieces", x.trail(1 | 1 << 5, 0), -2);
    Sentences.terms("how many; none");
    trail(1 << 19, 5, 7);
    // As long as can be: of eight ends 0-1, 2-5 and 7-8 leave two, 3 and 6.
    int longest = ALL & ~(1 | 1 << 8 | 1 << 5);
    Due.due("trail(longest, -1)", x.trail(longest, -1), 18);
    Due.due("trail(longest, 0)", x.trail(longest, 0), 3);
    Due.due("trail(longest, 17)", x.trail(longest, 17), 6);
    Due.due("trail(longest, 18)", x.trail(longest, 18), -2);
    Due.due("trail of none", x.trail(0, -1), -2);
    Due.due("trail of all", x.trail(ALL, -1), -2);
  }

  private static void lowestTrails() {
    Sentences.terms(": its points, the lowest first one, then the lowest next, ..");
    // Closed: from its lowest point, to the lower of two.
    trail(2 | 1 << 8 | 1 << 13, 1, 2, 5, 1);
    // Open: from the lower of its ends, though a lower point is on it.
    trail(1 | 1 << 6 | 1 << 16 | 2, 1, 0, 3, 1, 2);
    trail(3 | 1 << 8 | 1 << 13, 0, 1, 2, 5, 1);
    // From 4 the lowest next is 0, but then 1, 5 and 4 would be left.
    trail(1 | 1 << 16 | 1 << 2 | 1 << 7 | 1 << 3 | 1 << 13 | 1 << 12, 0, 1, 3, 4, 1, 5, 4, 0);
    // Against all lines tried one by one in their order.
    int tried = 0;
    for (int set = 1; tried < 40; set = set * 5 + 7 & ALL) {
      java.util.List<Integer> points = PlainOffice.trail(set);
      if (!points.isEmpty()) {
        tried++;
        trail(set, points.stream().mapToInt(point -> point).toArray());
      }
    }
  }

  private static void rims() {
    Sentences.terms("RIM: points that have just one stroke");
    MarkOffice x = new MarkOffice();
    Due.due("rim(0-1)", x.rim(1), 3);
    Due.due("rim(5-7)", x.rim(1 << 19), 1 << 5 | 1 << 7);
    Due.due("rim(0-1-2)", x.rim(3), 1 | 1 << 2);
    Due.due("rim(three at 1)", x.rim(3 | 1 << 7), 1 | 1 << 2 | 1 << 4);
    Due.due("rim(four at 4)", x.rim(12 | 1 << 7 | 1 << 10), 1 << 1 | 1 << 3 | 1 << 5 | 1 << 7);
    Due.due("rim(0-1 and 7-8)", x.rim(1 | 1 << 5), 3 | 3 << 7);
    Due.due("rim(frame)", x.rim(FRAME), 0);
    Due.due("rim(all)", x.rim(ALL), 0);
  }

  private static void noStrokes() {
    Sentences.terms("Of strokes: ");
    Due.due("how many of 0-1", of(1, 2), 1);
    Sentences.terms("(Of no strokes all of these are 0, and there is no TRAIL.)");
    for (int what = 0; what < 7; what++) {
      Due.due("of(0, " + what + ")", of(0, what), 0);
    }
    MarkOffice x = new MarkOffice();
    Due.due("pens(0)", x.pens(0), 0);
    Due.due("rim(0)", x.rim(0), 0);
    Due.due("trail(0, -1)", x.trail(0, -1), -2);
    Due.due("trail(0, 0)", x.trail(0, 0), -2);
  }

  private static void drawn() {
    Sentences.promise(20, "The stroke of two points");
    MarkOffice x = new MarkOffice();
    Due.due("drawn(4, 8)", x.drawn(4, 8), 15);
    Due.due("drawn(8, 4)", x.drawn(8, 4), 15);
    Sentences.promise(20, "NONE: there is none");
    int[][] none = {{0, 2}, {0, 8}, {0, 5}, {2, 3}, {5, 6}, {3, 5}, {1, 7}, {2, 6}};
    for (int[] pair : none) {
      Due.due("drawn(" + pair[0] + ", " + pair[1] + ")", x.drawn(pair[0], pair[1]), -1);
    }
    for (int point = 0; point < 9; point++) {
      Due.due("drawn(" + point + ", itself)", x.drawn(point, point), -1);
    }
    Sentences.promise(20, ", and for others");
    int[] others = {-1, 9, -32, 32, 33, 36, -28, Offices.LOWEST, Offices.HIGHEST};
    for (int other : others) {
      for (int point : new int[] {0, 1, 4, 8}) {
        Due.due("drawn(" + other + ", " + point + ")", x.drawn(other, point), -1);
        Due.due("drawn(" + point + ", " + other + ")", x.drawn(point, other), -1);
      }
    }
    Due.due("drawn(32, 33)", x.drawn(32, 33), -1);
    Due.due("drawn(9, 10)", x.drawn(9, 10), -1);
  }

  private static void turnedAndJoined() {
    MarkOffice x = new MarkOffice();
    Sentences.promise(21, "TURNED");
    Due.due("turned(3, 1)", x.turned(3, 1), 1 << 8 | 1 << 11);
    Sentences.promise(21, "NONE for others (WAYS 0 .. 7)");
    for (int set : NO_SETS) {
      Due.due("turned(" + set + ", 0)", x.turned(set, 0), -1);
      Due.due("turned(" + set + ", 7)", x.turned(set, 7), -1);
    }
    for (int way : NO_WAYS) {
      Due.due("turned(1, " + way + ")", x.turned(1, way), -1);
      Due.due("turned(0, " + way + ")", x.turned(0, way), -1);
    }
    Sentences.promise(22, "WAYS joined: which");
    Due.due("joined(0, 0)", x.joined(0, 0), 0);
    Due.due("joined(3, 3)", x.joined(3, 3), 2);
    Due.due("joined(7, 7)", x.joined(7, 7), 0);
    Due.due("joined(0, 7)", x.joined(0, 7), 7);
    Sentences.promise(22, "NONE for others");
    for (int way : NO_WAYS) {
      Due.due("joined(0, " + way + ")", x.joined(0, way), -1);
      Due.due("joined(" + way + ", 0)", x.joined(way, 0), -1);
      Due.due("joined(" + way + ", itself)", x.joined(way, way), -1);
    }
  }

  private static void ofSets() {
    MarkOffice x = new MarkOffice();
    Sentences.promise(23, "OWN: WAYS (bits)");
    Due.due("own(0)", x.own(0), 255);
    Due.due("own(all)", x.own(ALL), 255);
    Due.due("own(3)", x.own(3), 17);
    Sentences.promise(24, "LEAST");
    Due.due("least(0)", x.least(0), 0);
    Due.due("least(all)", x.least(ALL), ALL);
    Due.due("least(256)", x.least(256), 1);
    Sentences.promise(25, "PENS");
    Due.due("pens(0)", x.pens(0), 0);
    Due.due("pens(all)", x.pens(ALL), 4);
    Sentences.promise(27, "RIM: points (bits)");
    Due.due("rim(0)", x.rim(0), 0);
    Due.due("rim(7-8)", x.rim(32), 3 << 7);
    noSets(x);
  }

  private static void noSets(MarkOffice x) {
    Sentences.promise(23, "NONE for others");
    for (int set : NO_SETS) {
      Due.due("own(" + set + ")", x.own(set), -1);
    }
    Sentences.promise(24, "NONE for others");
    for (int set : NO_SETS) {
      Due.due("least(" + set + ")", x.least(set), -1);
    }
    Sentences.promise(25, "NONE for others");
    for (int set : NO_SETS) {
      Due.due("pens(" + set + ")", x.pens(set), -1);
    }
    Sentences.promise(27, "NONE for others");
    for (int set : NO_SETS) {
      Due.due("rim(" + set + ")", x.rim(set), -1);
    }
  }

  private static void trailPromised() {
    MarkOffice x = new MarkOffice();
    Sentences.promise(26, "A TRAIL: how many points (i NONE), the i-th");
    Due.due("trail(frame, -1)", x.trail(FRAME, -1), 9);
    Due.due("trail(frame, 0)", x.trail(FRAME, 0), 0);
    Due.due("trail(frame, 7)", x.trail(FRAME, 7), 3);
    Due.due("trail(frame, 8)", x.trail(FRAME, 8), 0);
    Sentences.promise(26, "-2: none, ");
    Due.due("trail(none, -1)", x.trail(0, -1), -2);
    Due.due("trail(two pieces, -1)", x.trail(1 | 1 << 5, -1), -2);
    Due.due("trail(two pieces, 0)", x.trail(1 | 1 << 5, 0), -2);
    Sentences.promise(26, "there is none such");
    Due.due("trail(frame, 9)", x.trail(FRAME, 9), -2);
    Due.due("trail(0-1, 2)", x.trail(1, 2), -2);
    // The points of a longer one asked of ahead are not its own.
    Due.due("trail(0-1, 5)", x.trail(1, 5), -2);
    Sentences.promise(26, ", and for others");
    for (int i : new int[] {-2, 21, 22, Offices.LOWEST, Offices.HIGHEST}) {
      Due.due("trail(frame, " + i + ")", x.trail(FRAME, i), -2);
    }
    for (int set : NO_SETS) {
      Due.due("trail(" + set + ", -1)", x.trail(set, -1), -2);
      Due.due("trail(" + set + ", 0)", x.trail(set, 0), -2);
    }
  }

  private static void kinds() {
    Sentences.terms("KINDS: how many sets of n strokes there are, those alike by some WAY once");
    MarkOffice x = new MarkOffice();
    long sum = 0;
    for (int n = 0; n <= 20; n++) {
      sum += x.kinds(n);
      Due.due("kinds(" + n + ") as of those left out", x.kinds(n), x.kinds(20 - n));
    }
    // All sets: 2^20 stay by no turn, 2^5 by each quarter, 2^10 by a half, 2^11 and 2^12 by two tips each.
    Due.due("kinds, all together", sum, ((1 << 20) + 2 * 32 + 1024 + 2 * 2048 + 2 * 4096) / 8);
    Due.due("kinds(1)", x.kinds(1), 4);
    Due.due("kinds(2)", x.kinds(2), 31);
    Sentences.promise(34, "KINDS");
    Due.due("kinds(0)", x.kinds(0), 1);
    Due.due("kinds(19)", x.kinds(19), 4);
    Due.due("kinds(20)", x.kinds(20), 1);
    Sentences.promise(34, "NONE for others (0 .. 20)");
    for (int n : new int[] {-1, 21, 32, Offices.LOWEST, Offices.HIGHEST}) {
      Due.due("kinds(" + n + ")", x.kinds(n), -1);
    }
  }
}
