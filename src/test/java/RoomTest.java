import java.lang.management.ManagementFactory;

/** The room of a run: nothing is made behind the constructor, however dear the calls are. */
public final class RoomTest {
  public static void main(String[] args) {
    // The machine itself makes things the first time that it runs something.
    dearCalls(new MarkOffice());
    MarkOffice x = new MarkOffice();
    long before = made();
    dearCalls(x);
    long made = made() - before;
    Due.due("512 dear calls make " + made + " bytes", made < 20000, true);
    before = made();
    new MarkOffice();
    made = made() - before;
    Due.due("the constructor makes " + made + " bytes", made < 60000, true);
    Due.close("RoomTest");
  }

  private static long made() {
    return ((com.sun.management.ThreadMXBean) ManagementFactory.getThreadMXBean())
        .getThreadAllocatedBytes(Thread.currentThread().getId());
  }

  private static final int[][] LAWS = {
    Due.words("wears size which+(-ends)*2;fee if pieces<3 or not ends>2 then strokes else fund/9 end;draw frame;", 0),
    Due.words("wears size which+(-ends)*2;fee if pieces<3 or not ends>2 then strokes else fund/9 end;draw frame;", 20),
    Due.words("wears size which+(-ends)*2;fee if pieces<3 or not ends>2 then strokes else fund/9 end;draw frame;", 40),
    Due.words("wears size which+(-ends)*2;fee if pieces<3 or not ends>2 then strokes else fund/9 end;draw frame;", 60),
    Due.words("wears size which+(-ends)*2;fee if pieces<3 or not ends>2 then strokes else fund/9 end;draw frame;", 80),
  };

  private static void dearCalls(MarkOffice x) {
    for (int i = 0; i < 5; i++) {
      x.mark(1039 * i + 77777);
    }
    for (int i = 0; i < 22; i++) {
      for (int[] w : LAWS) {
        x.feed(w[0], w[1], w[2], w[3], w[4]);
      }
      x.end(97);
      x.text();
      x.by(0);
      x.played(0);
      x.year(60);
      x.foretold(60, 0);
      x.ages(i, 40);
      x.free(4, 1);
      x.apart(4, 9);
      x.kinds(10);
      x.trail(2931, 3);
      x.game(0, 1023);
      x.witness(i, i % 2 == 0);
      x.ask();
      x.said(0, 0, 3);
      x.whose();
      x.image();
      x.back();
    }
  }
}
