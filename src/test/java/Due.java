/** Counts and tells the answers that are not as due, and puts texts on tapes. */
final class Due {
  private static int checks = 0;
  private static int wrong = 0;
  private static String under = "";

  private Due() {}

  static void due(String call, long got, long want) {
    checks++;
    if (got != want) {
      fail(call + " answered " + got + ", due is " + want);
    }
  }

  /** What is told ahead of each answer that is not as due from now on. */
  static void under(String what) {
    under = what + ": ";
  }

  static void fail(String what) {
    wrong++;
    if (wrong <= 40) {
      System.out.println(under + what);
    }
  }

  static int looked() {
    return checks;
  }

  static void due(String call, boolean got, boolean want) {
    due(call, got ? 1 : 0, want ? 1 : 0);
  }

  static boolean anyWrong() {
    return wrong > 0;
  }

  /** The last line of each test: it ends with exit code 1 if an answer was wrong. */
  static void close(String test) {
    System.out.println(test + ": " + checks + " answers looked at, " + wrong + " not as due");
    if (wrong > 0 || checks == 0) {
      System.exit(1);
    }
  }

  /** The words of five that feed takes, for the bytes of a text from a place on. */
  static int[] words(String text, int from) {
    int[] words = new int[5];
    for (int i = 0; i < 20; i++) {
      int sign = from + i < text.length() ? text.charAt(from + i) & 255 : 0;
      words[i / 4] = words[i / 4] << 8 | sign;
    }
    return words;
  }

  /** The tape has a text, whatever it had; a text is of 300 bytes at most. */
  static void put(MarkOffice x, String text) {
    x.end(0);
    for (int from = 0; from < text.length(); from += 20) {
      int[] w = words(text, from);
      x.feed(w[0], w[1], w[2], w[3], w[4]);
    }
    x.end(text.length());
  }

  /** A text is told: its number, or NONE. */
  static int told(MarkOffice x, String text) {
    put(x, text);
    return x.text();
  }
}
