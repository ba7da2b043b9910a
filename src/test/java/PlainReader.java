import java.util.ArrayDeque;
import java.util.Deque;
import java.util.List;
import java.util.Set;

/**
 * Finds the first fault of a text by a stack of what is to come: a sign or word to come by itself,
 * the rest in capitals. "DONE" closes one of those that are open around one another.
 */
final class PlainReader {
  private static final Set<String> VERBS =
      Set.of("wears", "fee", "draw", "add", "rub", "renew", "year");
  private static final Set<String> OPENERS_OF_ONE = Set.of("(", "-", "size", "has", "if");
  private static final Set<String> OPENERS_OF_PART = Set.of("(", "turn", "tip");
  private static final Set<String> COMPARES = Set.of("<", "<=", ">", ">=", "=", "#");
  private static final Set<String> NAMES =
      Set.of("year", "number", "strokes", "ends", "fund", "which", "pieces");

  private final List<PlainOffice.Token> tokens;
  private final int length;
  private final Deque<String> toCome = new ArrayDeque<>();
  private int at = 0;
  private int open = 0;
  private int clauses = 0;
  private boolean wears = false;
  private boolean fee = false;
  private String law = "";

  PlainReader(List<PlainOffice.Token> tokens, int length) {
    this.tokens = tokens;
    this.length = length;
  }

  /** The first fault and its place; 0 and NONE without. */
  void read(int[] found) {
    toCome.push("TEXT");
    while (!toCome.isEmpty()) {
      int fault = next(toCome.pop());
      if (fault != 0) {
        found[0] = fault;
        found[1] = at < tokens.size() ? tokens.get(at).place() : length;
        return;
      }
    }
    found[0] = 0;
    found[1] = -1;
  }

  private String sign() {
    return at < tokens.size() ? tokens.get(at).sign() : "";
  }

  private boolean isNumber() {
    return at < tokens.size() && tokens.get(at).isNumber();
  }

  private void come(String... symbols) {
    for (int i = symbols.length - 1; i >= 0; i--) {
      toCome.push(symbols[i]);
    }
  }

  private int next(String symbol) {
    switch (symbol) {
      case "TEXT":
        return at == tokens.size() ? 0 : clause();
      case "DONE":
        open--;
        return 0;
      case "SUM":
        come("PRODUCT", "MORE SUM");
        return 0;
      case "MORE SUM":
        return more(Set.of("+", "-"), "PRODUCT", symbol);
      case "PRODUCT":
        come("ONE", "MORE PRODUCT");
        return 0;
      case "MORE PRODUCT":
        return more(Set.of("*", "/"), "ONE", symbol);
      case "EITHER":
        come("BOTH", "MORE EITHER");
        return 0;
      case "MORE EITHER":
        return more(Set.of("or"), "BOTH", symbol);
      case "BOTH":
        come("ASK", "MORE BOTH");
        return 0;
      case "MORE BOTH":
        return more(Set.of("and"), "ASK", symbol);
      case "SHAPE":
        come("PART", "MORE SHAPE");
        return 0;
      case "MORE SHAPE":
        return more(Set.of("with", "less"), "PART", symbol);
      case "ASK":
        return ask();
      case "COMPARE":
        return COMPARES.contains(sign()) ? take() : 1;
      case "ONE":
        return one();
      case "PART":
        return part();
      default:
        return symbol.startsWith("NUMBER") ? number(symbol) : sign().equals(symbol) ? take() : 1;
    }
  }

  private int take() {
    at++;
    return 0;
  }

  private int more(Set<String> signs, String then, String again) {
    if (signs.contains(sign())) {
      at++;
      come(then, again);
    }
    return 0;
  }

  private int number(String symbol) {
    String[] words = symbol.split(" ");
    if (!isNumber()) {
      return 1;
    }
    int number = tokens.get(at).number();
    return number < Integer.parseInt(words[1]) || number > Integer.parseInt(words[2]) ? 2 : take();
  }

  private int clause() {
    String verb = sign();
    if (!VERBS.contains(verb)) {
      return 1;
    }
    if (verb.equals("wears") && wears || verb.equals("fee") && fee) {
      return 4;
    }
    if (clauses == 24) {
      return 6;
    }
    clauses++;
    at++;
    switch (verb) {
      case "wears":
        wears = true;
        law = verb;
        come("SUM", ";", "TEXT");
        break;
      case "fee":
        fee = true;
        law = verb;
        come("SUM", ";", "TEXT");
        break;
      case "draw":
        come("SHAPE", ";", "TEXT");
        break;
      case "add":
        come("NUMBER 0 19", "to", "NUMBER 0 7", ";", "TEXT");
        break;
      case "rub":
        come("NUMBER 0 19", "of", "NUMBER 0 7", ";", "TEXT");
        break;
      case "renew":
        come("NUMBER 0 7", ";", "TEXT");
        break;
      default:
        come("NUMBER 1 60", ";", "TEXT");
    }
    return 0;
  }

  private int opened(String... then) {
    if (open == 8) {
      return 3;
    }
    open++;
    at++;
    come(then);
    return 0;
  }

  private int ask() {
    if (sign().equals("not")) {
      return opened("ASK", "DONE");
    }
    come("SUM", "COMPARE", "SUM");
    return 0;
  }

  private int one() {
    if (isNumber()) {
      return number("NUMBER 0 9999");
    }
    if (NAMES.contains(sign())) {
      boolean wrong = sign().equals("which") && !law.equals("wears")
          || sign().equals("pieces") && !law.equals("fee");
      return wrong ? 5 : take();
    }
    if (!OPENERS_OF_ONE.contains(sign())) {
      return 1;
    }
    switch (sign()) {
      case "(":
        return opened("SUM", ")", "DONE");
      case "if":
        return opened("EITHER", "then", "SUM", "else", "SUM", "end", "DONE");
      default:
        return opened("ONE", "DONE");
    }
  }

  private int part() {
    switch (sign()) {
      case "stroke":
        at++;
        come("NUMBER 0 19");
        return 0;
      case "bar":
      case "post":
        at++;
        come("NUMBER 0 2");
        return 0;
      case "frame":
        return take();
      default:
        if (!OPENERS_OF_PART.contains(sign())) {
          return 1;
        }
        return sign().equals("(") ? opened("SHAPE", ")", "DONE") : opened("PART", "DONE");
    }
  }
}
