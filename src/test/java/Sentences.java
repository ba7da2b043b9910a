import java.nio.file.Files;
import java.nio.file.Path;
import java.util.Arrays;

/**
 * Holds the tests of bounds against ../shared/DOC.md: each test quotes the sentence that it is of.
 * What is quoted must stand there, and nothing of the terms and the promises may be left unquoted.
 */
final class Sentences {
  private static final int PROMISES = 49;
  private static final String[] TEXTS = read();
  private static final boolean[][] QUOTED = new boolean[PROMISES + 1][];
  private static int answersAhead = -1;

  static {
    for (int part = 0; part <= PROMISES; part++) {
      QUOTED[part] = new boolean[TEXTS[part].length()];
    }
  }

  private Sentences() {}

  /** A test of a sentence of the terms (and of the parts I to V behind them) begins. */
  static void terms(String quote) {
    begin(0, "terms", quote);
  }

  /** A test of a sentence of a promise begins. */
  static void promise(int number, String quote) {
    begin(number, "promise " + number, quote);
  }

  private static void begin(int part, String where, String quote) {
    endLatest();
    Due.under(where + ", \"" + quote + "\"");
    answersAhead = Due.looked();
    int at = TEXTS[part].indexOf(quote);
    if (at < 0) {
      Due.fail("no such sentence in the document");
    }
    for (; at >= 0; at = TEXTS[part].indexOf(quote, at + 1)) {
      Arrays.fill(QUOTED[part], at, at + quote.length(), true);
    }
  }

  private static void endLatest() {
    if (answersAhead == Due.looked()) {
      Due.fail("no answer is looked at");
    }
  }

  /** Fails for words and numbers that no test quotes. */
  static void close() {
    endLatest();
    Due.under("the document");
    for (int part = 0; part <= PROMISES; part++) {
      StringBuilder left = new StringBuilder();
      for (int i = 0; i < TEXTS[part].length(); i++) {
        left.append(QUOTED[part][i] ? ' ' : TEXTS[part].charAt(i));
      }
      String words = left.toString().replaceAll("[^A-Za-z0-9<=>+*/#-]+", " ").trim();
      if (!words.isEmpty()) {
        Due.fail((part == 0 ? "terms" : "promise " + part) + ": no test quotes: " + words);
      }
    }
  }

  /** The terms (0) and each promise by its number, without heads, signs of parts and signatures. */
  private static String[] read() {
    String[] texts = new String[PROMISES + 1];
    Arrays.fill(texts, "");
    for (String section : document().split("\n## ")) {
      int line = section.indexOf('\n');
      String head = section.substring(0, Math.max(0, line));
      String body = section.substring(line + 1).replaceAll("\\s+", " ");
      if (head.equals("Terms")) {
        texts[0] = body.replaceAll("==== [IVX]+\\. ", "").replaceAll("```(text)? ?", "");
      } else if (head.startsWith("Promise ")) {
        int number = Integer.parseInt(head.substring(8, head.indexOf(':')));
        texts[number] = body.replaceAll("^ ?`[^`]*`: ", "");
      }
    }
    return texts;
  }

  private static String document() {
    try {
      return Files.readString(Path.of(System.getProperty("document", "../shared/DOC.md")));
    } catch (java.io.IOException e) {
      throw new java.io.UncheckedIOException(e);
    }
  }
}
