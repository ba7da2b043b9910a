/** Promises 35 to 40: what a witness saw, what to ask, games of closed lines. */
public final class WitnessTest {
  private static final int ALL = (1 << 20) - 1;

  public static void main(String[] args) {
    witness();
    whichAndWays();
    ask();
    allTold();
    game();
    play();
    Due.close("WitnessTest");
  }

  private static void witness() {
    MarkOffice x = new MarkOffice();
    Due.due("witness(0, true)", x.witness(0, true), 1);
    Due.due("witness(19, false)", x.witness(19, false), 2);
    Due.due("witness(0, true) again", x.witness(0, true), -2);
    Due.due("witness(19, true) again", x.witness(19, true), -2);
    Due.due("witness(20, true)", x.witness(20, true), -2);
    Due.due("witness(-2, true)", x.witness(-2, true), -2);
    Due.due("about(4)", x.about(4), 2);
    Due.due("witness(-1, false)", x.witness(-1, false), 0);
    Due.due("about(4)", x.about(4), 0);
    Due.due("witness(0, false)", x.witness(0, false), 1);
  }

  private static void whichAndWays() {
    MarkOffice x = new MarkOffice();
    Due.due("which() without marks", x.which(), 0);
    x.mark(7);
    x.mark(1);
    x.mark(0);
    Due.due("which(), nothing told", x.which(), 7);
    Due.due("ways(2), nothing told", x.ways(2), 255);
    Due.due("ways(3)", x.ways(3), -1);
    Due.due("ways(-1)", x.ways(-1), -1);
    // Stroke 8 was seen: stroke 0 comes there by WAY 1 alone, stroke 1 by WAY 5, too; 2 never.
    x.witness(8, true);
    Due.due("which()", x.which(), 3);
    Due.due("ways(1)", x.ways(1), 1 << 1);
    Due.due("ways(0)", x.ways(0), 1 << 1 | 1 << 5);
    Due.due("ways(2)", x.ways(2), 0);
    // Stroke 7 wasn't: it is stroke 2 by WAY 1.
    x.witness(7, false);
    Due.due("ways(0)", x.ways(0), 1 << 5);
    // As it is now.
    x.rub(0, 2);
    Due.due("ways(0) now", x.ways(0), 1 << 1 | 1 << 5);
    x.witness(11, false);
    Due.due("which() now", x.which(), 2);
  }

  private static void ask() {
    MarkOffice x = new MarkOffice();
    Due.due("ask() without marks", x.ask(), -1);
    x.mark(1);
    Due.due("ask() of one", x.ask(), -1);
    x.mark(3);
    // 16 WAYS: stroke 0 of 1 by one and of 3 by two; so are all eight of the rim: 13 against 3.
    Due.due("ask() of two", x.ask(), 0);
    x.witness(0, false);
    // 1 by seven WAYS, 3 by six; stroke 1 by 1 and 0; 4 by 1 and 2, 10 to 3: the least is 10.
    Due.due("ask(), 0 told", x.ask(), 4);
    x.witness(4, true);
    // 1 by one WAY (6), 3 by two (48 by WAYS 2, 6): stroke 5 of two among three.
    Due.due("ask(), 4 told", x.ask(), 5);
    x.witness(5, false);
    Due.due("ask(), one fits", x.ask(), -1);
    Due.due("which()", x.which(), 1);
    x.witness(6, true);
    Due.due("ask(), none fits", x.ask(), -1);
    // Strokes that none or all have are asked of no better than at the worst.
    MarkOffice y = new MarkOffice();
    y.mark(0);
    y.mark(0);
    Due.due("ask() of like ones: the lowest", y.ask(), 0);
    y.witness(0, false);
    Due.due("ask() of like ones: the lowest not told", y.ask(), 1);
  }

  private static void allTold() {
    MarkOffice x = new MarkOffice();
    x.mark(0);
    x.mark(0);
    for (int stroke = 0; stroke < 19; stroke++) {
      x.witness(stroke, false);
    }
    Due.due("ask() of the last", x.ask(), 19);
    Due.due("witness(19, false)", x.witness(19, false), 20);
    Due.due("ask(), all told", x.ask(), -1);
    Due.due("which(), all told", x.which(), 3);
  }

  private static void game(int strokes, int free, int wins, int play) {
    MarkOffice x = new MarkOffice();
    Due.due("game(" + strokes + ", " + free + ")", x.game(strokes, free), wins);
    Due.due("play(" + strokes + ", " + free + ")", x.play(strokes, free), play);
  }

  private static void game() {
    game(0, 0, 0, -1);
    game(5, 0, 0, -1);
    game(0, 1, 1, 0);
    game(0, 3, 0, -1);
    game(0, 7, 1, 0);
    // The triangle 0-1-3: the third stroke closes it.
    int triangle = 1 | 1 << 6 | 1 << 16;
    game(0, triangle, 0, -1);
    game(1, triangle, 1, 6);
    game(1, triangle & ~1, 1, 6);
    game(1 | 1 << 6, triangle, 0, -1);
    // Those there aside: nothing can be added.
    game(7, 7, 0, -1);
    game(ALL, 1023, 0, -1);
    game(-1, 0, -1, -1);
    game(0, -1, -1, -1);
    game(1 << 20, 0, -1, -1);
    game(0, 1 << 20, -1, -1);
    // Ten free at most are told: 0 .. 9 join eight points of nine and more.
    game(0, 1023, PlainGame.firstWins(0, 1023) ? 1 : 0, PlainGame.lowestWin(0, 1023));
    game(0, 2047, -1, -1);
    // Eleven are told, though one of them is there.
    game(1, 2047, -1, -1);
  }

  private static void play() {
    // Stroke 0 would close the triangle; 1 doesn't.
    game(1 << 6 | 1 << 16, 3, 1, 1);
    // Closed lines that are there already harm none.
    game(1 | 1 << 6 | 1 << 16, 2, 1, 1);
    for (int i = 0; i < 200; i++) {
      int strokes = i * 7919 & i * 104729 & ALL;
      int free = i * 1299709 & ALL & ~(i * 3);
      while (Integer.bitCount(free) > 7) {
        free &= free - 1;
      }
      game(strokes, free, PlainGame.firstWins(strokes, free) ? 1 : 0,
          PlainGame.lowestWin(strokes, free));
    }
  }
}
