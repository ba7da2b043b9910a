import java.util.ArrayDeque;
import java.util.ArrayList;
import java.util.Arrays;
import java.util.Deque;
import java.util.HashSet;
import java.util.List;
import java.util.Set;

/**
 * The document again, written as slowly and as plainly as can be and in no way like MarkOffice:
 * strokes are pairs of points, games are played out, kinds are gathered one by one, laws are
 * worked out from their tokens each time. RandomRunsTest holds MarkOffice against it.
 */
final class PlainOffice {
  static final int NONE = -1;

  /** One token of a text: its sign or word, its place. */
  record Token(String sign, int place) {
    boolean isNumber() {
      return Character.isDigit(sign.charAt(0));
    }

    int number() {
      return sign.length() > 9 ? bigNumber() : Integer.parseInt(sign);
    }

    private int bigNumber() {
      return new java.math.BigInteger(sign).min(java.math.BigInteger.valueOf(99999)).intValue();
    }
  }

  record Line(int year, int mark, int what, int stroke) {}

  record Said(int mark, int stroke, int wears) {}

  /** A text by its clauses, each a list of tokens without its semicolon. */
  record Told(List<List<Token>> clauses) {
    List<Token> law(String name) {
      for (List<Token> clause : clauses) {
        if (clause.get(0).sign().equals(name)) {
          return clause.subList(1, clause.size());
        }
      }
      return null;
    }
  }

  /** What a step brings back. */
  static final class Past {
    List<Integer> now = new ArrayList<>();
    int fund;
    int year;
    int x = 431;
    List<Line> book = new ArrayList<>();

    Past copy() {
      Past copy = new Past();
      copy.now = new ArrayList<>(now);
      copy.fund = fund;
      copy.year = year;
      copy.x = x;
      copy.book = new ArrayList<>(book);
      return copy;
    }
  }

  /** What an image brings back. */
  static final class All {
    List<Integer> registered = new ArrayList<>();
    Past past = new Past();
    List<Past> steps = new ArrayList<>();
    List<Told> texts = new ArrayList<>();
    int ruling = NONE;
    List<int[]> witness = new ArrayList<>();
    List<Said> said = new ArrayList<>();

    All copy() {
      All copy = new All();
      copy.registered = new ArrayList<>(registered);
      copy.past = past.copy();
      for (Past step : steps) {
        copy.steps.add(step.copy());
      }
      copy.texts = new ArrayList<>(texts);
      copy.ruling = ruling;
      copy.witness = new ArrayList<>(witness);
      copy.said = new ArrayList<>(said);
      return copy;
    }
  }

  private All all = new All();
  private All image = all.copy();
  private List<Integer> tape = new ArrayList<>();
  private int fault = NONE;
  private int faultPlace = NONE;

  // ---- strokes as pairs of points

  static int[] pointsOf(int stroke) {
    if (stroke < 6) {
      int row = stroke / 2;
      int c = stroke % 2;
      return new int[] {3 * row + c, 3 * row + c + 1};
    }
    if (stroke < 12) {
      int row = (stroke - 6) / 3;
      int column = (stroke - 6) % 3;
      return new int[] {3 * row + column, 3 * (row + 1) + column};
    }
    if (stroke < 16) {
      int row = (stroke - 12) / 2;
      int c = (stroke - 12) % 2;
      return new int[] {3 * row + c, 3 * (row + 1) + c + 1};
    }
    int row = (stroke - 16) / 2;
    int c = (stroke - 16) % 2;
    return new int[] {3 * row + c + 1, 3 * (row + 1) + c};
  }

  static int strokeOf(int a, int b) {
    for (int stroke = 0; stroke < 20; stroke++) {
      int[] points = pointsOf(stroke);
      if (points[0] == a && points[1] == b || points[0] == b && points[1] == a) {
        return stroke;
      }
    }
    return NONE;
  }

  static int pointBy(int point, int way) {
    int row = point / 3;
    int column = point % 3;
    if (way >= 4) {
      column = 2 - column;
    }
    for (int quarter = 0; quarter < way % 4; quarter++) {
      int newRow = column;
      column = 2 - row;
      row = newRow;
    }
    return 3 * row + column;
  }

  private static final int[][] BY = new int[8][20];

  static {
    for (int way = 0; way < 8; way++) {
      for (int stroke = 0; stroke < 20; stroke++) {
        int[] p = pointsOf(stroke);
        BY[way][stroke] = strokeOf(pointBy(p[0], way), pointBy(p[1], way));
      }
    }
  }

  static int by(int strokes, int way) {
    int result = 0;
    for (int stroke : list(strokes)) {
      result |= 1 << BY[way][stroke];
    }
    return result;
  }

  static List<Integer> list(int bits) {
    List<Integer> list = new ArrayList<>();
    for (int bit = 0; bit < 20; bit++) {
      if ((bits & 1 << bit) != 0) {
        list.add(bit);
      }
    }
    return list;
  }

  static int size(int bits) {
    return list(bits).size();
  }

  static int degree(int strokes, int point) {
    int degree = 0;
    for (int stroke : list(strokes)) {
      int[] points = pointsOf(stroke);
      degree += points[0] == point || points[1] == point ? 1 : 0;
    }
    return degree;
  }

  static int ends(int strokes) {
    int ends = 0;
    for (int point = 0; point < 9; point++) {
      ends += degree(strokes, point) % 2;
    }
    return ends;
  }

  /** For each point the lowest one that it is joined with; NONE for points without strokes. */
  static int[] groups(int strokes) {
    int[] group = new int[9];
    for (int point = 0; point < 9; point++) {
      group[point] = degree(strokes, point) == 0 ? NONE : point;
    }
    for (int round = 0; round < 9; round++) {
      for (int stroke : list(strokes)) {
        int[] points = pointsOf(stroke);
        int lower = Math.min(group[points[0]], group[points[1]]);
        group[points[0]] = lower;
        group[points[1]] = lower;
      }
    }
    return group;
  }

  static int pieces(int strokes) {
    Set<Integer> set = new HashSet<>();
    for (int group : groups(strokes)) {
      set.add(group);
    }
    set.remove(NONE);
    return set.size();
  }

  static int holes(int strokes) {
    int points = 0;
    for (int point = 0; point < 9; point++) {
      points += degree(strokes, point) > 0 ? 1 : 0;
    }
    return size(strokes) + pieces(strokes) - points;
  }

  static int crossings(int strokes) {
    int crossings = 0;
    for (int row = 0; row < 2; row++) {
      for (int c = 0; c < 2; c++) {
        int one = strokeOf(3 * row + c, 3 * row + c + 4);
        int other = strokeOf(3 * row + c + 1, 3 * row + c + 3);
        crossings += (strokes & 1 << one) != 0 && (strokes & 1 << other) != 0 ? 1 : 0;
      }
    }
    return crossings;
  }

  /** By trying: the fewest lines, each a walk over strokes not drawn yet (small sets only). */
  static int pensTried(int strokes) {
    for (int pens = 0; ; pens++) {
      if (canDraw(strokes, NONE, pens)) {
        return pens;
      }
    }
  }

  private static boolean canDraw(int left, int at, int pens) {
    if (left == 0) {
      return true;
    }
    for (int stroke : list(left)) {
      int[] p = pointsOf(stroke);
      for (int i = 0; i < 2; i++) {
        if (p[i] == at && canDraw(left & ~(1 << stroke), p[1 - i], pens)) {
          return true;
        }
      }
    }
    if (pens == 0) {
      return false;
    }
    for (int point = 0; point < 9; point++) {
      if (point != at && degree(left, point) > 0 && startsAt(left, point, pens)) {
        return true;
      }
    }
    return false;
  }

  private static boolean startsAt(int left, int point, int pens) {
    for (int stroke : list(left)) {
      int[] p = pointsOf(stroke);
      for (int i = 0; i < 2; i++) {
        if (p[i] == point && canDraw(left & ~(1 << stroke), p[1 - i], pens - 1)) {
          return true;
        }
      }
    }
    return false;
  }

  static int pens(int strokes) {
    int[] group = groups(strokes);
    int pens = 0;
    for (int lowest = 0; lowest < 9; lowest++) {
      int odd = 0;
      boolean any = false;
      for (int point = 0; point < 9; point++) {
        if (group[point] == lowest) {
          any = true;
          odd += degree(strokes, point) % 2;
        }
      }
      if (any) {
        pens += odd == 0 ? 1 : odd / 2;
      }
    }
    return pens;
  }

  /** The first whole line in the order of its points, by walking back where it ends too soon. */
  static List<Integer> trail(int strokes) {
    if (strokes == 0 || pens(strokes) != 1) {
      return List.of();
    }
    for (int start = 0; start < 9; start++) {
      List<Integer> points = new ArrayList<>(List.of(start));
      if (walk(strokes, start, points)) {
        return points;
      }
    }
    throw new IllegalStateException("one pen and no line");
  }

  private static boolean walk(int left, int at, List<Integer> points) {
    if (left == 0) {
      return true;
    }
    for (int next = 0; next < 9; next++) {
      int stroke = strokeOf(at, next);
      if (stroke != NONE && (left & 1 << stroke) != 0) {
        points.add(next);
        if (walk(left & ~(1 << stroke), next, points)) {
          return true;
        }
        points.remove(points.size() - 1);
      }
    }
    return false;
  }

  static int rim(int strokes) {
    int rim = 0;
    for (int point = 0; point < 9; point++) {
      rim |= degree(strokes, point) == 1 ? 1 << point : 0;
    }
    return rim;
  }

  // ---- face: marks, tape, texts

  int mark(int strokes) {
    if (!set(strokes) || all.registered.size() == 8) {
      return NONE;
    }
    all.registered.add(strokes);
    all.past.now.add(strokes);
    return all.registered.size() - 1;
  }

  int feed(int a, int b, int c, int d, int e) {
    if (tape.size() > 280) {
      return NONE;
    }
    for (int word : new int[] {a, b, c, d, e}) {
      tape.add(word >>> 24);
      tape.add(word >>> 16 & 255);
      tape.add(word >>> 8 & 255);
      tape.add(word & 255);
    }
    return tape.size();
  }

  int end(int n) {
    if (n < 0 || n > tape.size()) {
      return NONE;
    }
    tape = new ArrayList<>(tape.subList(0, n));
    return n;
  }

  int text() {
    if (all.texts.size() == 4) {
      return NONE;
    }
    int[] found = {0, NONE};
    List<Token> tokens = tokens();
    new PlainReader(tokens, tape.size()).read(found);
    tape = new ArrayList<>();
    fault = found[0];
    faultPlace = found[1];
    if (fault != 0) {
      return NONE;
    }
    List<List<Token>> clauses = new ArrayList<>();
    List<Token> clause = new ArrayList<>();
    for (Token token : tokens) {
      if (token.sign().equals(";")) {
        clauses.add(clause);
        clause = new ArrayList<>();
      } else {
        clause.add(token);
      }
    }
    all.texts.add(new Told(clauses));
    return all.texts.size() - 1;
  }

  private List<Token> tokens() {
    StringBuilder bytes = new StringBuilder();
    for (int b : tape) {
      bytes.append((char) b);
    }
    List<Token> tokens = new ArrayList<>();
    java.util.regex.Matcher matcher = java.util.regex.Pattern
        .compile("[ \n]+|[a-zA-Z]+|[0-9]+|<=|>=|.", java.util.regex.Pattern.DOTALL)
        .matcher(bytes);
    while (matcher.find()) {
      if (!matcher.group().matches("[ \n]+")) {
        tokens.add(new Token(matcher.group(), matcher.start()));
      }
    }
    return tokens;
  }

  int fault(int what) {
    return what == 0 ? fault : what == 1 ? faultPlace : NONE;
  }

  boolean by(int text) {
    if (text < NONE || text >= all.texts.size()) {
      return false;
    }
    all.ruling = text;
    return true;
  }

  // ---- face: changes

  boolean add(int mark, int stroke) {
    if (!isMark(mark) || !isStroke(stroke) || has(all.past, mark, stroke)) {
      return false;
    }
    keepStep();
    set(all.past, mark, stroke, 0);
    return true;
  }

  boolean rub(int mark, int stroke) {
    if (!isMark(mark) || !isStroke(stroke) || !has(all.past, mark, stroke)) {
      return false;
    }
    keepStep();
    set(all.past, mark, stroke, 1);
    return true;
  }

  int renew(int mark) {
    if (!isMark(mark) || all.past.now.get(mark).equals(all.registered.get(mark))) {
      return NONE;
    }
    keepStep();
    return renewed(mark);
  }

  private int renewed(int mark) {
    int other = size(all.past.now.get(mark) ^ all.registered.get(mark));
    all.past.now.set(mark, all.registered.get(mark));
    write(all.past, new Line(all.past.year, mark, 2, NONE));
    return other;
  }

  int year(int n) {
    if (n < 1 || n > 60 || all.past.year + n > 9999) {
      return NONE;
    }
    int worn = 0;
    for (int i = 0; i < n; i++) {
      keepStep();
      worn += passYear(all.past);
    }
    return worn;
  }

  int played(int text) {
    if (text < 0 || text >= all.texts.size()) {
      return -2;
    }
    List<List<Token>> clauses = all.texts.get(text).clauses();
    for (int i = 0; i < clauses.size(); i++) {
      if (!done(clauses.get(i))) {
        return i;
      }
    }
    return NONE;
  }

  private boolean done(List<Token> clause) {
    String verb = clause.get(0).sign();
    if (verb.equals("draw")) {
      int[] at = {1};
      return mark(shape(clause, at)) != NONE;
    }
    if (verb.equals("add")) {
      return add(clause.get(3).number(), clause.get(1).number());
    }
    if (verb.equals("rub")) {
      return rub(clause.get(3).number(), clause.get(1).number());
    }
    if (verb.equals("renew")) {
      return renew(clause.get(1).number()) != NONE;
    }
    if (verb.equals("year")) {
      for (int i = 0; i < clause.get(1).number(); i++) {
        if (year(1) == NONE) {
          return false;
        }
      }
    }
    return true;
  }

  private static int shape(List<Token> clause, int[] at) {
    int shape = part(clause, at);
    while (at[0] < clause.size() && !clause.get(at[0]).sign().equals(")")) {
      boolean with = clause.get(at[0]++).sign().equals("with");
      int part = part(clause, at);
      shape = with ? shape | part : shape & ~part;
    }
    return shape;
  }

  private static int part(List<Token> clause, int[] at) {
    String word = clause.get(at[0]++).sign();
    switch (word) {
      case "stroke":
        return 1 << clause.get(at[0]++).number();
      case "bar": {
        int row = clause.get(at[0]++).number();
        return 1 << strokeOf(3 * row, 3 * row + 1) | 1 << strokeOf(3 * row + 1, 3 * row + 2);
      }
      case "post": {
        int column = clause.get(at[0]++).number();
        return 1 << strokeOf(column, column + 3) | 1 << strokeOf(column + 3, column + 6);
      }
      case "frame": {
        int frame = 0;
        int[] around = {0, 1, 2, 5, 8, 7, 6, 3, 0};
        for (int i = 0; i < 8; i++) {
          frame |= 1 << strokeOf(around[i], around[i + 1]);
        }
        return frame;
      }
      case "turn":
        return by(part(clause, at), 1);
      case "tip":
        return by(part(clause, at), 4);
      default: {
        int shape = shape(clause, at);
        at[0]++;
        return shape;
      }
    }
  }

  int ages(int seed, int n) {
    if (seed < 0 || seed > 9999 || n < 1 || n > 40) {
      return NONE;
    }
    keepStep();
    all.past.x = seed * 2 + 431;
    for (int i = 0; i < n; i++) {
      int x = draw(all.past);
      int mark = x / 6 % 8;
      int stroke = x % 20;
      int kind = x % 6;
      if (kind >= 4) {
        if (all.past.year < 9999) {
          passYear(all.past);
        }
      } else if (isMark(mark)) {
        if (kind <= 1 && !has(all.past, mark, stroke)) {
          set(all.past, mark, stroke, 0);
        } else if (kind == 2 && has(all.past, mark, stroke)) {
          set(all.past, mark, stroke, 1);
        } else if (kind == 3 && x % 4 == 1
            && !all.past.now.get(mark).equals(all.registered.get(mark))) {
          renewed(mark);
        }
      }
    }
    return all.past.year;
  }

  int undo() {
    if (all.steps.isEmpty()) {
      return NONE;
    }
    all.past = all.steps.remove(all.steps.size() - 1);
    while (all.past.now.size() < all.registered.size()) {
      all.past.now.add(all.registered.get(all.past.now.size()));
    }
    return all.steps.size();
  }

  private void keepStep() {
    all.steps.add(all.past.copy());
    if (all.steps.size() > 30) {
      all.steps.remove(0);
    }
  }

  private static boolean has(Past past, int mark, int stroke) {
    return (past.now.get(mark) & 1 << stroke) != 0;
  }

  private static void set(Past past, int mark, int stroke, int what) {
    int strokes = past.now.get(mark);
    past.now.set(mark, what == 0 ? strokes | 1 << stroke : strokes & ~(1 << stroke));
    write(past, new Line(past.year, mark, what, stroke));
  }

  private static void write(Past past, Line line) {
    past.book.add(line);
    if (past.book.size() > 25) {
      past.book.remove(0);
    }
  }

  private static int draw(Past past) {
    int x = past.x;
    past.x = (x * 677 + 557) % 30983;
    return x;
  }

  private int passYear(Past past) {
    int worn = 0;
    for (int mark = 0; mark < past.now.size(); mark++) {
      past.fund = Math.min(999999, past.fund + fee(ruling(), past, mark));
      int stroke = draw(past) % 20;
      if (has(past, mark, stroke)) {
        int chance = draw(past) % 10;
        if (chance < wears(ruling(), past, mark, stroke)) {
          set(past, mark, stroke, 3);
          worn++;
        }
      }
    }
    past.year++;
    return worn;
  }

  private Told ruling() {
    return all.ruling == NONE ? null : all.texts.get(all.ruling);
  }

  private int fee(Told told, Past past, int mark) {
    List<Token> law = told == null ? null : told.law("fee");
    if (law == null) {
      return size(past.now.get(mark));
    }
    long value = new PlainLaw(law, past, mark, NONE).whole();
    return (int) (value < 0 ? 0 : value > 99 ? 99 : value);
  }

  private int wears(Told told, Past past, int mark, int stroke) {
    List<Token> law = told == null ? null : told.law("wears");
    if (law == null) {
      return 3;
    }
    long value = new PlainLaw(law, past, mark, stroke).whole();
    return (int) (value < 0 ? 0 : value > 10 ? 10 : value);
  }

  // ---- face: what is

  int of(int mark, int what) {
    if (!isMark(mark) || what < 0 || what > 7) {
      return NONE;
    }
    int now = all.past.now.get(mark);
    int[] answers = {now, all.registered.get(mark), size(now), ends(now), pieces(now), holes(now),
        crossings(now), fee(ruling(), all.past, mark)};
    return answers[what];
  }

  int wears(int mark, int stroke) {
    return isMark(mark) && isStroke(stroke) ? wears(ruling(), all.past, mark, stroke) : NONE;
  }

  int is(int what) {
    if (what < 0 || what > 3) {
      return -2;
    }
    int other = 0;
    for (int mark = 0; mark < all.registered.size(); mark++) {
      other |= all.past.now.get(mark).equals(all.registered.get(mark)) ? 0 : 1 << mark;
    }
    return new int[] {all.past.year, all.past.x, all.past.fund, other}[what];
  }

  int book(int i, int what) {
    List<Line> book = all.past.book;
    if (i == NONE) {
      return book.size();
    }
    if (i < 0 || i >= book.size() || what < 0 || what > 3) {
      return -2;
    }
    Line line = book.get(i);
    return new int[] {line.year(), line.mark(), line.what(), line.stroke()}[what];
  }

  int foretold(int n, int mark) {
    if (n < 1 || n > 60 || !isMark(mark)) {
      return NONE;
    }
    Past then = all.past.copy();
    for (int i = 0; i < n; i++) {
      if (then.year < 9999) {
        passYear(then);
      }
    }
    return then.now.get(mark);
  }

  // ---- face: strokes

  int drawn(int a, int b) {
    return strokeOf(a, b);
  }

  int turned(int strokes, int way) {
    return set(strokes) && isWay(way) ? by(strokes, way) : NONE;
  }

  int joined(int first, int then) {
    if (!isWay(first) || !isWay(then)) {
      return NONE;
    }
    for (int way = 0; way < 8; way++) {
      boolean same = true;
      for (int point = 0; point < 9; point++) {
        same &= pointBy(point, way) == pointBy(pointBy(point, first), then);
      }
      if (same) {
        return way;
      }
    }
    throw new IllegalStateException("no such way");
  }

  int own(int strokes) {
    int own = 0;
    for (int way = 0; way < 8 && set(strokes); way++) {
      own |= by(strokes, way) == strokes ? 1 << way : 0;
    }
    return set(strokes) ? own : NONE;
  }

  int least(int strokes) {
    return set(strokes) ? leastOf(strokes) : NONE;
  }

  private static int leastOf(int strokes) {
    int least = Integer.MAX_VALUE;
    for (int way = 0; way < 8; way++) {
      least = Math.min(least, by(strokes, way));
    }
    return least;
  }

  int pens(int strokes, boolean face) {
    return set(strokes) ? pens(strokes) : NONE;
  }

  int trail(int strokes, int i) {
    if (!set(strokes)) {
      return -2;
    }
    List<Integer> points = trail(strokes);
    if (points.isEmpty()) {
      return -2;
    }
    return i == NONE ? points.size() : i >= 0 && i < points.size() ? points.get(i) : -2;
  }

  int rim(int strokes, boolean face) {
    return set(strokes) ? rim(strokes) : NONE;
  }

  // ---- face: marks against marks

  private static int nearest(int first, int second, boolean which) {
    int best = 0;
    int fewest = 99;
    for (int way = 0; way < 8; way++) {
      int apart = size(first ^ by(second, way));
      if (apart < fewest) {
        fewest = apart;
        best = way;
      }
    }
    return which ? best : fewest;
  }

  int alike(int a, int b) {
    return isMark(a) && isMark(b) ? nearest(all.past.now.get(a), all.past.now.get(b), false) : NONE;
  }

  int way(int a, int b) {
    return isMark(a) && isMark(b) ? nearest(all.past.now.get(a), all.past.now.get(b), true) : NONE;
  }

  private static int madeOf(int first, int second, boolean which) {
    for (int way = 0; way < 8; way++) {
      int shape = by(second, way);
      if ((first | shape) == shape) {
        return which ? way : size(shape) - size(first);
      }
    }
    return NONE;
  }

  int made(int a, int b, boolean way) {
    return isMark(a) && isMark(b) ? madeOf(all.past.now.get(a), all.past.now.get(b), way) : NONE;
  }

  private static boolean isMade(int first, int second, int k) {
    int by = madeOf(first, second, false);
    return by != NONE && by <= k;
  }

  int clash(int k, boolean second) {
    if (k < 0 || k > 20) {
      return NONE;
    }
    int count = all.registered.size();
    for (int i = 0; i < count; i++) {
      for (int j = i + 1; j < count; j++) {
        int one = all.registered.get(i);
        int other = all.registered.get(j);
        if (isMade(one, other, k) || isMade(other, one, k)) {
          return second ? j : i;
        }
      }
    }
    return NONE;
  }

  int chain(int a, int b, int k) {
    if (!isMark(a) || !isMark(b) || k < 0 || k > 20) {
      return NONE;
    }
    int count = all.registered.size();
    int[] steps = new int[count];
    Arrays.fill(steps, NONE);
    steps[a] = 0;
    Deque<Integer> queue = new ArrayDeque<>(List.of(a));
    while (!queue.isEmpty()) {
      int one = queue.poll();
      for (int other = 0; other < count; other++) {
        if (steps[other] == NONE && isMade(all.past.now.get(one), all.past.now.get(other), k)) {
          steps[other] = steps[one] + 1;
          queue.add(other);
        }
      }
    }
    return steps[b];
  }

  private static final List<List<Integer>> SETS = new ArrayList<>();
  private static final long[] KINDS = new long[21];

  static {
    for (int n = 0; n <= 4; n++) {
      SETS.add(new ArrayList<>());
    }
    for (int set = 0; set < 1 << 20; set++) {
      int n = Integer.bitCount(set);
      if (n <= 4) {
        SETS.get(n).add(set);
      }
      if (isLeast(set)) {
        KINDS[n]++;
      }
    }
  }

  private static boolean isLeast(int set) {
    for (int way = 1; way < 8; way++) {
      int turned = 0;
      for (int left = set; left != 0; left &= left - 1) {
        turned |= 1 << BY[way][Integer.numberOfTrailingZeros(left)];
      }
      if (turned < set) {
        return false;
      }
    }
    return true;
  }

  int free(int n, int k) {
    if (n < 0 || n > 4 || k < 0 || k > 20) {
      return NONE;
    }
    for (int set : SETS.get(n)) {
      boolean free = true;
      for (int mark : all.registered) {
        free = free && !isMade(mark, set, k) && !isMade(set, mark, k);
      }
      if (free) {
        return set;
      }
    }
    return NONE;
  }

  int apart(int n, int k) {
    if (n < 0 || n > 4 || k < 0 || k > 20) {
      return NONE;
    }
    int count = 0;
    for (int set : SETS.get(n)) {
      boolean far = true;
      for (int mark : all.registered) {
        far = far && nearest(set, mark, false) >= k;
      }
      count += far ? 1 : 0;
    }
    return count;
  }

  long kinds(int n) {
    return n >= 0 && n <= 20 ? KINDS[n] : NONE;
  }

  // ---- face: witness and games

  int witness(int stroke, boolean seen) {
    if (stroke == NONE) {
      all.witness.clear();
      return 0;
    }
    if (!isStroke(stroke) || isTold(stroke)) {
      return -2;
    }
    all.witness.add(new int[] {stroke, seen ? 1 : 0});
    return all.witness.size();
  }

  private boolean isTold(int stroke) {
    return all.witness.stream().anyMatch(told -> told[0] == stroke);
  }

  private boolean fits(int mark, int way) {
    int shape = by(all.past.now.get(mark), way);
    return all.witness.stream().allMatch(told -> (shape >> told[0] & 1) == told[1]);
  }

  int ways(int mark) {
    if (!isMark(mark)) {
      return NONE;
    }
    int ways = 0;
    for (int way = 0; way < 8; way++) {
      ways |= fits(mark, way) ? 1 << way : 0;
    }
    return ways;
  }

  int which() {
    int which = 0;
    for (int mark = 0; mark < all.registered.size(); mark++) {
      which |= ways(mark) != 0 ? 1 << mark : 0;
    }
    return which;
  }

  int ask() {
    if (Integer.bitCount(which()) < 2) {
      return NONE;
    }
    int best = NONE;
    int least = 1000;
    for (int stroke = 0; stroke < 20; stroke++) {
      if (isTold(stroke)) {
        continue;
      }
      int having = 0;
      int not = 0;
      for (int mark = 0; mark < all.registered.size(); mark++) {
        for (int way = 0; way < 8; way++) {
          if (fits(mark, way)) {
            if ((by(all.past.now.get(mark), way) & 1 << stroke) != 0) {
              having++;
            } else {
              not++;
            }
          }
        }
      }
      if (Math.max(having, not) < least) {
        least = Math.max(having, not);
        best = stroke;
      }
    }
    return best;
  }

  int game(int strokes, int free) {
    if (!set(strokes) || !set(free) || size(free) > 10) {
      return NONE;
    }
    return firstWin(strokes, free) == NONE ? 0 : 1;
  }

  int play(int strokes, int free) {
    return game(strokes, free) == NONE ? NONE : firstWin(strokes, free);
  }

  /** The lowest stroke behind which the other one can't win, by playing all games out. */
  private static int firstWin(int strokes, int free) {
    for (int stroke : list(free & ~strokes)) {
      int then = strokes | 1 << stroke;
      if (holes(then) == holes(strokes) && firstWin(then, free) == NONE) {
        return stroke;
      }
    }
    return NONE;
  }

  // ---- face: laws, ledgers, images

  int said(int mark, int stroke, int wears) {
    if (mark == NONE) {
      all.said.clear();
      return 0;
    }
    if (!isMark(mark) || !isStroke(stroke) || wears < 0 || wears > 10 || all.said.size() == 8) {
      return -2;
    }
    all.said.add(new Said(mark, stroke, wears));
    return all.said.size();
  }

  int whose() {
    int whose = 0;
    for (int text = 0; text < all.texts.size(); text++) {
      Told told = all.texts.get(text);
      boolean agrees = all.said.stream().allMatch(
          said -> wears(told, all.past, said.mark(), said.stroke()) == said.wears());
      whose |= agrees ? 1 << text : 0;
    }
    return whose;
  }

  int richest() {
    int best = NONE;
    int most = 0;
    for (int mark = 0; mark < all.registered.size(); mark++) {
      if (of(mark, 7) > most) {
        most = of(mark, 7);
        best = mark;
      }
    }
    return best;
  }

  int worn() {
    int best = NONE;
    int most = 0;
    for (int mark = 0; mark < all.registered.size(); mark++) {
      int apart = size(all.past.now.get(mark) ^ all.registered.get(mark));
      if (apart > most) {
        most = apart;
        best = mark;
      }
    }
    return best;
  }

  int ledger(int what) {
    if (what < 0 || what > 3) {
      return -2;
    }
    return (int) all.past.book.stream().filter(line -> line.what() == what).count();
  }

  int image() {
    image = all.copy();
    return all.past.year;
  }

  int back() {
    all = image.copy();
    return all.past.year;
  }

  int about(int what) {
    if (what < 0 || what > 6) {
      return -2;
    }
    return new int[] {all.registered.size(), all.texts.size(), all.ruling, all.steps.size(),
        all.witness.size(), all.said.size(), tape.size()}[what];
  }

  private boolean isMark(int mark) {
    return mark >= 0 && mark < all.registered.size();
  }

  private static boolean isStroke(int stroke) {
    return stroke >= 0 && stroke <= 19;
  }

  private static boolean isWay(int way) {
    return way >= 0 && way <= 7;
  }

  private static boolean set(int strokes) {
    return strokes >= 0 && strokes <= 0xFFFFF;
  }
}
