/** The game of closed lines, played out: every turn, every answer. */
final class PlainGame {
  private PlainGame() {}

  static boolean firstWins(int strokes, int free) {
    return lowestWin(strokes, free) != -1;
  }

  static int lowestWin(int strokes, int free) {
    return new PlainOffice().play(strokes, free);
  }
}
