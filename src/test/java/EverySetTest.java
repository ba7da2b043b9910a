/** What is so of strokes alone, of every seventh set of them, as PlainOffice finds it. */
public final class EverySetTest {
  private static final int SETS = 1 << 20;
  // Odd, so that each stroke comes with each other one; all sets (1) take most of a minute.
  private static final int STEP = 7;
  private static final int MOST_ASKED = 512 - 64;

  private EverySetTest() {}

  public static void main(String[] args) {
    int step = args.length > 0 ? Integer.parseInt(args[0]) : STEP;
    MarkOffice x = new MarkOffice();
    int asked = 0;
    for (int set = 0; set < SETS && !Due.anyWrong(); set += step) {
      if (asked > MOST_ASKED) {
        x = new MarkOffice();
        asked = 0;
      }
      asked += ofSet(x, set);
      marked(set);
    }
    Due.close("EverySetTest");
  }

  /** How many calls are made. */
  private static int ofSet(MarkOffice x, int set) {
    int own = 0;
    int least = set;
    for (int way = 0; way < 8; way++) {
      int by = PlainOffice.by(set, way);
      own |= by == set ? 1 << way : 0;
      least = Math.min(least, by);
      Due.due("turned(" + set + ", " + way + ")", x.turned(set, way), by);
    }
    Due.due("own(" + set + ")", x.own(set), own);
    Due.due("least(" + set + ")", x.least(set), least);
    Due.due("rim(" + set + ")", x.rim(set), PlainOffice.rim(set));
    int pens = PlainOffice.pens(set);
    Due.due("pens(" + set + ")", x.pens(set), pens);
    int points = pens == 1 ? Integer.bitCount(set) + 1 : -2;
    Due.due("trail(" + set + ", -1)", x.trail(set, -1), points);
    Due.due("strokes drawn by the trail of " + set, points < 0 ? set : drawnBy(x, set, points), set);
    return 13 + Math.max(0, points);
  }

  private static int drawnBy(MarkOffice x, int set, int points) {
    int drawn = 0;
    int at = x.trail(set, 0);
    for (int i = 1; i < points; i++) {
      int next = x.trail(set, i);
      int stroke = PlainOffice.strokeOf(at, next);
      boolean again = stroke < 0 || (drawn >> stroke & 1) == 1;
      Due.due("a stroke drawn once, point " + i + " of the trail of " + set, again, false);
      drawn |= again ? 0 : 1 << stroke;
      at = next;
    }
    return drawn;
  }

  private static void marked(int set) {
    MarkOffice x = new MarkOffice();
    Due.due("mark(" + set + ")", x.mark(set), 0);
    Due.due("ends of " + set, x.of(0, 3), PlainOffice.ends(set));
    Due.due("pieces of " + set, x.of(0, 4), PlainOffice.pieces(set));
    Due.due("holes of " + set, x.of(0, 5), PlainOffice.holes(set));
    Due.due("crossings of " + set, x.of(0, 6), PlainOffice.crossings(set));
  }
}
