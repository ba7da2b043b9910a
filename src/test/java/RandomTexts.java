import java.util.Random;

/** Texts by chance: right ones by the grammar, and such with a few things wrong. */
final class RandomTexts {
  private static final String[] WORDS = {
    "wears", "fee", "draw", "add", "rub", "renew", "year", "to", "of", "stroke", "bar", "post",
    "frame", "turn", "tip", "with", "less", "size", "has", "if", "then", "else", "end", "or", "and",
    "not", "number", "strokes", "ends", "fund", "which", "pieces", "(", ")", ";", "<=", ">=", "<",
    ">", "=", "#", "+", "-", "*", "/", "0", "1", "7", "8", "19", "20", "60", "61", "9999", "10000",
    "Wears", "x", "!", "\t", "\u00e9", "99999999999999999999", "007"
  };

  private final Random random;
  private StringBuilder text = new StringBuilder();
  private boolean wears;

  RandomTexts(long seed) {
    random = new Random(seed);
  }

  String next() {
    text = new StringBuilder();
    boolean hasWears = random.nextInt(12) == 0;
    boolean hasFee = random.nextInt(12) == 0;
    int clauses = random.nextInt(10) == 0 ? 20 + random.nextInt(8) : random.nextInt(7);
    for (int i = 0; i < clauses; i++) {
      int kind = clauses > 10 ? 3 + random.nextInt(4) : random.nextInt(7);
      if (kind == 0 && !hasWears) {
        hasWears = true;
        law("wears");
      } else if (kind == 1 && !hasFee) {
        hasFee = true;
        law("fee");
      } else {
        deed(kind);
      }
      put(";");
    }
    if (random.nextInt(3) == 0) {
      spoil(1 + random.nextInt(3));
    }
    if (text.length() > 300) {
      text.setLength(300);
    }
    return text.toString();
  }

  private void law(String name) {
    wears = name.equals("wears");
    put(name);
    sum(1 + random.nextInt(4));
  }

  private void deed(int kind) {
    switch (kind) {
      case 3:
        put("add");
        put(number(20));
        put("to");
        put(number(random.nextInt(8) + 1));
        break;
      case 4:
        put("rub");
        put(number(20));
        put("of");
        put(number(random.nextInt(8) + 1));
        break;
      case 5:
        put("renew");
        put(number(random.nextInt(8) + 1));
        break;
      case 6:
        put("year");
        put(String.valueOf(1 + random.nextInt(random.nextInt(20) == 0 ? 60 : 4)));
        break;
      default:
        put("draw");
        shape(random.nextInt(5));
    }
  }

  private String number(int below) {
    return (random.nextInt(15) == 0 ? "0" : "") + random.nextInt(below);
  }

  /** Blanks only where two words or two numbers would be one, and now and then. */
  private void put(String token) {
    char last = text.length() == 0 ? ';' : text.charAt(text.length() - 1);
    char first = token.charAt(0);
    boolean words = Character.isLetter(last) && Character.isLetter(first);
    boolean numbers = Character.isDigit(last) && Character.isDigit(first);
    boolean signs = (last == '<' || last == '>') && first == '=';
    if (words || numbers || signs || random.nextInt(12) == 0) {
      text.append(random.nextInt(4) == 0 ? "\n" : " ");
    }
    text.append(token);
  }

  private void shape(int depth) {
    part(depth);
    for (int i = random.nextInt(3); i > 0; i--) {
      put(random.nextInt(3) == 0 ? "less" : "with");
      part(depth);
    }
  }

  private void part(int depth) {
    switch (random.nextInt(depth > 0 ? 7 : 4)) {
      case 0:
        put("stroke");
        put(number(20));
        break;
      case 1:
        put("bar");
        put(number(3));
        break;
      case 2:
        put("post");
        put(number(3));
        break;
      case 3:
        put("frame");
        break;
      case 4:
        put("turn");
        part(depth - 1);
        break;
      case 5:
        put("tip");
        part(depth - 1);
        break;
      default:
        put("(");
        shape(depth - 1);
        put(")");
    }
  }

  private void sum(int depth) {
    product(depth);
    for (int i = random.nextInt(3); i > 0; i--) {
      put(random.nextBoolean() ? "+" : "-");
      product(depth);
    }
  }

  private void product(int depth) {
    one(depth);
    for (int i = random.nextInt(5) / 3; i > 0; i--) {
      put(random.nextBoolean() ? "*" : "/");
      one(depth);
    }
  }

  private void one(int depth) {
    switch (random.nextInt(depth > 0 ? 8 : 3)) {
      case 0:
        put(number(random.nextInt(8) == 0 ? 10000 : 12));
        break;
      case 1:
      case 2:
        name();
        break;
      case 3:
        put("(");
        sum(depth - 1);
        put(")");
        break;
      case 4:
        put("-");
        one(depth - 1);
        break;
      case 5:
        put("size");
        one(depth - 1);
        break;
      case 6:
        put("has");
        one(depth - 1);
        break;
      default:
        put("if");
        either(depth - 1);
        put("then");
        sum(depth - 1);
        put("else");
        sum(depth - 1);
        put("end");
    }
  }

  private void name() {
    String[] names = {"year", "number", "strokes", "ends", "fund", wears ? "which" : "pieces"};
    put(names[random.nextInt(names.length)]);
  }

  private void either(int depth) {
    ask(depth);
    for (int i = random.nextInt(3); i > 0; i--) {
      put(random.nextBoolean() ? "or" : "and");
      ask(depth);
    }
  }

  private void ask(int depth) {
    if (random.nextInt(4) == 0) {
      put("not");
    }
    sum(Math.max(0, depth - 1));
    String[] signs = {"<", "<=", ">", ">=", "=", "#"};
    put(signs[random.nextInt(6)]);
    sum(Math.max(0, depth - 1));
  }

  private void spoil(int times) {
    for (int i = 0; i < times; i++) {
      int at = random.nextInt(text.length() + 1);
      switch (random.nextInt(5)) {
        case 0:
          text.insert(at, " " + WORDS[random.nextInt(WORDS.length)] + " ");
          break;
        case 1:
          text.setLength(at);
          break;
        case 2:
          if (at < text.length()) {
            text.deleteCharAt(at);
          }
          break;
        case 3:
          text.append(WORDS[random.nextInt(WORDS.length)]);
          break;
        default:
          spoilWord(at);
      }
    }
  }

  /** The word or sign from a place on becomes another one. */
  private void spoilWord(int from) {
    int to = from;
    while (to < text.length() && Character.isLetterOrDigit(text.charAt(to))) {
      to++;
    }
    text.replace(from, Math.min(text.length(), Math.max(to, from + 1)),
        " " + WORDS[random.nextInt(WORDS.length)] + " ");
  }
}
