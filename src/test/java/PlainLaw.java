import java.util.List;

/** Works a law out from its tokens, from the left, both sides of everything always. */
final class PlainLaw {
  private final List<PlainOffice.Token> tokens;
  private final PlainOffice.Past past;
  private final int mark;
  private final int stroke;
  private int at = 0;

  PlainLaw(List<PlainOffice.Token> tokens, PlainOffice.Past past, int mark, int stroke) {
    this.tokens = tokens;
    this.past = past;
    this.mark = mark;
    this.stroke = stroke;
  }

  long whole() {
    return sum();
  }

  private String sign() {
    return at < tokens.size() ? tokens.get(at).sign() : "";
  }

  private boolean comes(String sign) {
    if (sign().equals(sign)) {
      at++;
      return true;
    }
    return false;
  }

  private static long held(long value) {
    return value > 1000000 ? 1000000 : value < -1000000 ? -1000000 : value;
  }

  private long sum() {
    long value = product();
    while (true) {
      if (comes("+")) {
        value = held(value + product());
      } else if (comes("-")) {
        value = held(value - product());
      } else {
        return value;
      }
    }
  }

  private long product() {
    long value = one();
    while (true) {
      if (comes("*")) {
        value = held(value * one());
      } else if (comes("/")) {
        long by = one();
        value = by == 0 ? 0 : held(value / by);
      } else {
        return value;
      }
    }
  }

  private long one() {
    PlainOffice.Token token = tokens.get(at++);
    if (token.isNumber()) {
      return token.number();
    }
    int now = past.now.get(mark);
    switch (token.sign()) {
      case "(": {
        long value = sum();
        at++;
        return value;
      }
      case "-":
        return -one();
      case "size": {
        long other = one();
        return other >= 0 && other < past.now.size()
            ? PlainOffice.size(past.now.get((int) other)) : 0;
      }
      case "has": {
        long asked = one();
        return asked >= 0 && asked < 20 && (now & 1 << asked) != 0 ? 1 : 0;
      }
      case "if": {
        boolean chosen = either();
        at++;
        long then = sum();
        at++;
        long other = sum();
        at++;
        return chosen ? then : other;
      }
      case "year":
        return past.year;
      case "number":
        return mark;
      case "strokes":
        return PlainOffice.size(now);
      case "ends":
        return PlainOffice.ends(now);
      case "fund":
        return past.fund;
      case "which":
        return stroke;
      case "pieces":
        return PlainOffice.pieces(now);
      default:
        throw new IllegalStateException(token.sign());
    }
  }

  private boolean either() {
    boolean value = both();
    while (comes("or")) {
      value |= both();
    }
    return value;
  }

  private boolean both() {
    boolean value = asked();
    while (comes("and")) {
      value &= asked();
    }
    return value;
  }

  private boolean asked() {
    if (comes("not")) {
      return !asked();
    }
    long left = sum();
    String sign = tokens.get(at++).sign();
    long right = sum();
    switch (sign) {
      case "<":
        return left < right;
      case "<=":
        return left <= right;
      case ">":
        return left > right;
      case ">=":
        return left >= right;
      case "=":
        return left == right;
      default:
        return left != right;
    }
  }
}
