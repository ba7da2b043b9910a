/**
 * Mark office: marks of strokes on nine points, their registers, laws, forgers, witnesses and games.
 * What each method promises stands in ../shared/DOC.md; words in capitals there keep their meaning here.
 */
public final class MarkOffice {
  public static final int NONE = -1;

  private static final int REFUSED = -2;
  private static final int MARKS = 8;
  private static final int STROKES = 20;
  private static final int POINTS = 9;
  private static final int WAYS = 8;
  private static final int TEXTS = 4;
  private static final int MOST_BYTES = 300;
  private static final int MOST_CLAUSES = 24;
  private static final int MOST_OPEN = 8;
  private static final int MOST_SAID = 8;
  private static final int MOST_STEPS = 30;
  private static final int MOST_LINES = 25;
  private static final int MOST_YEARS = 60;
  private static final int LAST_YEAR = 9999;
  private static final int MOST_FUND = 999999;
  private static final int MOST_VALUE = 1000000;
  private static final int MOST_NUMBER = 9999;
  private static final int MOST_FREE = 10;
  private static final int MOST_IN_SET = 4;

  // What a line of the BOOK tells.
  private static final int ADDED = 0;
  private static final int RUBBED = 1;
  private static final int RENEWED = 2;
  private static final int WORN_OFF = 3;

  // The words of TEXTS, a blank behind each; the kind of a word is its place here.
  private static final String WORDS =
      "wears fee draw add rub renew year to of stroke bar post frame turn tip with less size has if then else end or and not number strokes ends fund which pieces ";
  private static final int WEARS = 0;
  private static final int FEE = 1;
  private static final int DRAW = 2;
  private static final int ADD = 3;
  private static final int RUB = 4;
  private static final int RENEW = 5;
  private static final int YEAR = 6;
  private static final int TO = 7;
  private static final int OF = 8;
  private static final int STROKE = 9;
  private static final int BAR = 10;
  private static final int POST = 11;
  private static final int FRAME = 12;
  private static final int TURN = 13;
  private static final int TIP = 14;
  private static final int WITH = 15;
  private static final int LESS = 16;
  private static final int SIZE = 17;
  private static final int HAS = 18;
  private static final int IF = 19;
  private static final int THEN = 20;
  private static final int ELSE = 21;
  private static final int END = 22;
  private static final int OR = 23;
  private static final int AND = 24;
  private static final int NOT = 25;
  private static final int NUMBER = 26;
  private static final int HOW_MANY = 27;
  private static final int ENDS = 28;
  private static final int FUND = 29;
  private static final int WHICH = 30;
  private static final int PIECES = 31;

  // The kinds of the other TOKENS; those of SIGNS follow one another as the signs do.
  private static final String SIGNS = "<>=#+-*/();";
  private static final int BELOW = 32;
  private static final int ABOVE = 33;
  private static final int SAME = 34;
  private static final int UNLIKE = 35;
  private static final int PLUS = 36;
  private static final int MINUS = 37;
  private static final int TIMES = 38;
  private static final int OVER = 39;
  private static final int OPEN = 40;
  private static final int CLOSE = 41;
  private static final int SEMICOLON = 42;
  private static final int AT_MOST = 43;
  private static final int AT_LEAST = 44;
  private static final int DIGITS = 45;
  private static final int FINISH = 46;
  private static final int UNKNOWN = 47;
  // No TOKEN: what a law does for the - of one ONE.
  private static final int NEGATE = 48;

  private final int[] tape = new int[MOST_BYTES];
  private int tapeLength = 0;
  private int latestFault = NONE;
  private int latestPlace = NONE;
  private final Text[] texts = new Text[TEXTS];
  private final Reader reader = new Reader(tape);
  private final Laws laws = new Laws();
  private final Held held = new Held();
  private final Held kept = new Held();
  private final Now trial = new Now();
  private final int[] shapes = new int[MARKS * WAYS];
  private final int[] trailPoints = new int[STROKES + 1];
  private final long[] setsBySize = new long[STROKES + 1];

  public MarkOffice() {
    for (int i = 0; i < TEXTS; i++) {
      texts[i] = new Text();
    }
  }

  // ---- marks, the tape, texts

  public int mark(int strokes) {
    if (!isSet(strokes)) {
      return NONE;
    }
    return held.register(strokes);
  }

  public int feed(int a, int b, int c, int d, int e) {
    if (tapeLength + 20 > MOST_BYTES) {
      return NONE;
    }
    putWord(a);
    putWord(b);
    putWord(c);
    putWord(d);
    putWord(e);
    return tapeLength;
  }

  public int end(int n) {
    if (n < 0 || n > tapeLength) {
      return NONE;
    }
    tapeLength = n;
    return n;
  }

  public int text() {
    if (held.texts >= TEXTS) {
      return NONE;
    }
    reader.read(tapeLength, texts[held.texts]);
    tapeLength = 0;
    latestFault = reader.fault;
    latestPlace = reader.place;
    if (latestFault != 0) {
      return NONE;
    }
    held.texts++;
    return held.texts - 1;
  }

  public int fault(int what) {
    if (what == 0) {
      return latestFault;
    }
    return what == 1 ? latestPlace : NONE;
  }

  public boolean by(int text) {
    if (text != NONE && !isText(text)) {
      return false;
    }
    held.ruling = text;
    return true;
  }

  // ---- what changes marks

  public boolean add(int mark, int stroke) {
    return changeByHand(mark, stroke, true);
  }

  public boolean rub(int mark, int stroke) {
    return changeByHand(mark, stroke, false);
  }

  public int renew(int mark) {
    return renewByHand(mark);
  }

  public int year(int n) {
    if (n < 1 || n > MOST_YEARS || held.now.year + n > LAST_YEAR) {
      return NONE;
    }
    return passYears(n);
  }

  public int played(int text) {
    if (!isText(text)) {
      return REFUSED;
    }
    Text played = texts[text];
    for (int i = 0; i < played.clauses; i++) {
      int first = played.first[i];
      boolean done;
      if (played.verb[i] == YEAR) {
        int ahead = held.now.year;
        passYears(first);
        done = held.now.year == ahead + first;
      } else {
        done = isDone(played.verb[i], first, played.second[i]);
      }
      if (!done) {
        return i;
      }
    }
    return NONE;
  }

  public int ages(int seed, int n) {
    if (seed < 0 || seed > MOST_NUMBER || n < 1 || n > 40) {
      return NONE;
    }
    held.steps.push(held.now);
    held.now.x = seed * 2 + 431;
    for (int i = 0; i < n; i++) {
      int x = held.now.nextX();
      if (x % 6 < 4) {
        held.ageByHand(x);
      } else if (held.now.year < LAST_YEAR) {
        held.now.passYear(laws, rules());
      }
    }
    return held.now.year;
  }

  public int undo() {
    return held.takeBack();
  }

  // ---- what is

  public int of(int mark, int what) {
    if (!isMark(mark)) {
      return NONE;
    }
    int strokes = held.now.strokes[mark];
    switch (what) {
      case 0:
        return strokes;
      case 1:
        return held.registered[mark];
      case 2:
        return Integer.bitCount(strokes);
      case 3:
        return Integer.bitCount(Strokes.oddPoints(strokes));
      case 4:
        return Strokes.countPieces(strokes);
      case 5:
        return Strokes.countHoles(strokes);
      case 6:
        return Strokes.countCrossings(strokes);
      case 7:
        return laws.feeBy(rules(), held.now, mark);
      default:
        return NONE;
    }
  }

  public int wears(int mark, int stroke) {
    if (!isMark(mark) || !isStroke(stroke)) {
      return NONE;
    }
    return laws.wearsBy(rules(), held.now, mark, stroke);
  }

  public int is(int what) {
    switch (what) {
      case 0:
        return held.now.year;
      case 1:
        return held.now.x;
      case 2:
        return held.now.fund;
      case 3:
        return held.otherThanRegistered();
      default:
        return REFUSED;
    }
  }

  public int book(int i, int what) {
    Now now = held.now;
    if (i == NONE) {
      return now.lines;
    }
    if (i < 0 || i >= now.lines || what < 0 || what > 3) {
      return REFUSED;
    }
    return now.lineTells(i, what);
  }

  public int foretold(int n, int mark) {
    if (n < 1 || n > MOST_YEARS || !isMark(mark)) {
      return NONE;
    }
    trial.copyFrom(held.now);
    for (int i = 0; i < n && trial.year < LAST_YEAR; i++) {
      trial.passYear(laws, rules());
    }
    return trial.strokes[mark];
  }

  // ---- strokes and ways

  public int drawn(int a, int b) {
    return isPoint(a) && isPoint(b) ? Strokes.between(a, b) : NONE;
  }

  public int turned(int strokes, int way) {
    return isSet(strokes) && isWay(way) ? Strokes.moved(strokes, way) : NONE;
  }

  public int joined(int first, int then) {
    if (!isWay(first) || !isWay(then)) {
      return NONE;
    }
    // A quarter turn behind which one tips is a tip behind which one turns back.
    boolean thenTips = then >= 4;
    int quarters = thenTips ? then % 4 - first % 4 + 4 : then % 4 + first % 4;
    boolean tips = first >= 4 != thenTips;
    return quarters % 4 + (tips ? 4 : 0);
  }

  public int own(int strokes) {
    if (!isSet(strokes)) {
      return NONE;
    }
    int ways = 0;
    for (int way = 0; way < WAYS; way++) {
      if (Strokes.moved(strokes, way) == strokes) {
        ways |= 1 << way;
      }
    }
    return ways;
  }

  public int least(int strokes) {
    if (!isSet(strokes)) {
      return NONE;
    }
    int lowest = strokes;
    for (int way = 1; way < WAYS; way++) {
      lowest = Math.min(lowest, Strokes.moved(strokes, way));
    }
    return lowest;
  }

  public int pens(int strokes) {
    return isSet(strokes) ? Strokes.countPens(strokes) : NONE;
  }

  public int trail(int strokes, int i) {
    if (!isSet(strokes)) {
      return REFUSED;
    }
    int points = Strokes.trailInto(trailPoints, strokes);
    if (points == 0) {
      return REFUSED;
    }
    if (i == NONE) {
      return points;
    }
    return i >= 0 && i < points ? trailPoints[i] : REFUSED;
  }

  public int rim(int strokes) {
    return isSet(strokes) ? Strokes.pointsOfOne(strokes) : NONE;
  }

  // ---- marks against marks

  public int alike(int a, int b) {
    if (!isMark(a) || !isMark(b)) {
      return NONE;
    }
    int way = Strokes.nearestWay(held.now.strokes[a], held.now.strokes[b]);
    return Strokes.countApart(held.now.strokes[a], held.now.strokes[b], way);
  }

  public int way(int a, int b) {
    return isMark(a) && isMark(b)
        ? Strokes.nearestWay(held.now.strokes[a], held.now.strokes[b]) : NONE;
  }

  public int made(int a, int b, boolean way) {
    if (!isMark(a) || !isMark(b)) {
      return NONE;
    }
    int first = held.now.strokes[a];
    int second = held.now.strokes[b];
    int lowest = Strokes.wayInto(first, second);
    if (lowest == NONE || way) {
      return lowest;
    }
    return Integer.bitCount(second) - Integer.bitCount(first);
  }

  public int clash(int k, boolean second) {
    if (k < 0 || k > STROKES) {
      return NONE;
    }
    for (int one = 0; one < held.now.marks; one++) {
      for (int other = one + 1; other < held.now.marks; other++) {
        if (Strokes.isNear(held.registered[one], held.registered[other], k)) {
          return second ? other : one;
        }
      }
    }
    return NONE;
  }

  public int chain(int a, int b, int k) {
    if (!isMark(a) || !isMark(b) || k < 0 || k > STROKES) {
      return NONE;
    }
    int reached = 1 << a;
    for (int steps = 0; steps < MARKS; steps++) {
      if ((reached >> b & 1) == 1) {
        return steps;
      }
      reached |= forgedFrom(reached, k);
    }
    return NONE;
  }

  public int free(int n, int k) {
    if (n < 0 || n > MOST_IN_SET || k < 0 || k > STROKES) {
      return NONE;
    }
    int count = turnAll(held.registered);
    int sets = Strokes.countSets(n);
    int set = Strokes.lowestOf(n);
    for (int i = 0; i < sets; i++) {
      if (isFreeOf(count, set, k)) {
        return set;
      }
      set = Strokes.nextOf(set);
    }
    return NONE;
  }

  public long kinds(int n) {
    if (n < 0 || n > STROKES) {
      return NONE;
    }
    // The sets that each WAY leaves as they are, of all WAYS together, count each kind once a WAY.
    long same = 0;
    for (int way = 0; way < WAYS; way++) {
      same += Strokes.countKeptBy(way, n, setsBySize);
    }
    return same / WAYS;
  }

  // ---- a witness

  public int witness(int stroke, boolean seen) {
    if (stroke == NONE) {
      held.seen = 0;
      held.unseen = 0;
      return 0;
    }
    if (!isStroke(stroke) || ((held.seen | held.unseen) >> stroke & 1) == 1) {
      return REFUSED;
    }
    if (seen) {
      held.seen |= 1 << stroke;
    } else {
      held.unseen |= 1 << stroke;
    }
    return held.countTold();
  }

  public int which() {
    int marks = 0;
    for (int mark = 0; mark < held.now.marks; mark++) {
      if (fittingWays(mark) != 0) {
        marks |= 1 << mark;
      }
    }
    return marks;
  }

  public int ways(int mark) {
    return isMark(mark) ? fittingWays(mark) : NONE;
  }

  public int ask() {
    int fitting = 0;
    int count = 0;
    for (int mark = 0; mark < held.now.marks; mark++) {
      int before = count;
      count = gatherFitting(mark, count);
      fitting += count > before ? 1 : 0;
    }
    return fitting < 2 ? NONE : bestQuestion(count);
  }

  // ---- games

  public int game(int strokes, int free) {
    if (!isGame(strokes, free)) {
      return NONE;
    }
    return Strokes.countJoining(strokes, free) % 2;
  }

  public int play(int strokes, int free) {
    if (!isGame(strokes, free) || Strokes.countJoining(strokes, free) % 2 == 0) {
      return NONE;
    }
    for (int stroke = 0; stroke < STROKES; stroke++) {
      int one = 1 << stroke;
      if ((free & one) != 0 && Strokes.countJoining(strokes, one) == 1) {
        return stroke;
      }
    }
    return NONE;
  }

  public int apart(int n, int k) {
    if (n < 0 || n > MOST_IN_SET || k < 0 || k > STROKES) {
      return NONE;
    }
    int count = turnAll(held.registered);
    int sets = Strokes.countSets(n);
    int set = Strokes.lowestOf(n);
    int far = 0;
    for (int i = 0; i < sets; i++) {
      far += isApartFrom(count, set, k) ? 1 : 0;
      set = Strokes.nextOf(set);
    }
    return far;
  }

  // ---- laws told and what the office looks like

  public int said(int mark, int stroke, int wears) {
    if (mark == NONE) {
      held.said = 0;
      return 0;
    }
    boolean told = isMark(mark) && isStroke(stroke) && wears >= 0 && wears <= 10;
    if (!told || held.said >= MOST_SAID) {
      return REFUSED;
    }
    held.saidMark[held.said] = mark;
    held.saidStroke[held.said] = stroke;
    held.saidWears[held.said] = wears;
    held.said++;
    return held.said;
  }

  public int whose() {
    int lawful = 0;
    for (int text = 0; text < held.texts; text++) {
      if (agrees(texts[text])) {
        lawful |= 1 << text;
      }
    }
    return lawful;
  }

  public int richest() {
    int best = NONE;
    int most = 0;
    for (int mark = 0; mark < held.now.marks; mark++) {
      int fee = laws.feeBy(rules(), held.now, mark);
      if (fee > most) {
        most = fee;
        best = mark;
      }
    }
    return best;
  }

  public int worn() {
    int best = NONE;
    int most = 0;
    for (int mark = 0; mark < held.now.marks; mark++) {
      int other = held.countOther(mark);
      if (other > most) {
        most = other;
        best = mark;
      }
    }
    return best;
  }

  public int ledger(int what) {
    if (what < 0 || what > 3) {
      return REFUSED;
    }
    int lines = 0;
    for (int i = 0; i < held.now.lines; i++) {
      lines += held.now.lineTells(i, 2) == what ? 1 : 0;
    }
    return lines;
  }

  public int image() {
    kept.copyFrom(held);
    return held.now.year;
  }

  public int back() {
    held.copyFrom(kept);
    return held.now.year;
  }

  public int about(int what) {
    switch (what) {
      case 0:
        return held.now.marks;
      case 1:
        return held.texts;
      case 2:
        return held.ruling;
      case 3:
        return held.steps.count;
      case 4:
        return held.countTold();
      case 5:
        return held.said;
      case 6:
        return tapeLength;
      default:
        return REFUSED;
    }
  }

  // ---- what arguments can be

  private boolean isMark(int mark) {
    return held.now.isMark(mark);
  }

  private boolean isText(int text) {
    return text >= 0 && text < held.texts;
  }

  private static boolean isStroke(int stroke) {
    return stroke >= 0 && stroke < STROKES;
  }

  private static boolean isPoint(int point) {
    return point >= 0 && point < POINTS;
  }

  private static boolean isWay(int way) {
    return way >= 0 && way < WAYS;
  }

  private static boolean isSet(int strokes) {
    return strokes >= 0 && strokes < 1 << STROKES;
  }

  private static boolean isGame(int strokes, int free) {
    return isSet(strokes) && isSet(free) && Integer.bitCount(free) <= MOST_FREE;
  }

  // ---- parts of the methods above

  private Text rules() {
    return isText(held.ruling) ? texts[held.ruling] : null;
  }

  private void putWord(int word) {
    for (int shift = 24; shift >= 0 && tapeLength < MOST_BYTES; shift -= 8) {
      tape[tapeLength] = word >> shift & 255;
      tapeLength++;
    }
  }

  private boolean changeByHand(int mark, int stroke, boolean in) {
    if (!held.now.canChange(mark, stroke, in)) {
      return false;
    }
    held.steps.push(held.now);
    held.now.change(mark, stroke, in ? ADDED : RUBBED);
    return true;
  }

  private int renewByHand(int mark) {
    if (!isMark(mark) || held.countOther(mark) == 0) {
      return NONE;
    }
    held.steps.push(held.now);
    return held.restore(mark);
  }

  /** YEARS, those that can pass: how many strokes wear off in them. */
  private int passYears(int n) {
    int worn = 0;
    for (int i = 0; i < n && held.now.year < LAST_YEAR; i++) {
      held.steps.push(held.now);
      worn += held.now.passYear(laws, rules());
    }
    return worn;
  }

  /** Does what a CLAUSE tells, YEARS and laws aside; false if it can't be. */
  private boolean isDone(int verb, int first, int second) {
    switch (verb) {
      case DRAW:
        return held.register(first) != NONE;
      case ADD:
        return changeByHand(second, first, true);
      case RUB:
        return changeByHand(second, first, false);
      case RENEW:
        return renewByHand(first) != NONE;
      default:
        return true;
    }
  }

  /** MARKS that can be made now out of one of those reached. */
  private int forgedFrom(int reached, int k) {
    int forged = 0;
    for (int one = 0; one < held.now.marks; one++) {
      for (int other = 0; other < held.now.marks; other++) {
        boolean open = (reached >> one & 1) == 1 && (reached >> other & 1) == 0;
        if (open && Strokes.isMadeOf(held.now.strokes[one], held.now.strokes[other], k)) {
          forged |= 1 << other;
        }
      }
    }
    return forged;
  }

  /** All MARKS by all WAYS go to shapes: how many that are. */
  private int turnAll(int[] marks) {
    int count = 0;
    for (int mark = 0; mark < held.now.marks; mark++) {
      for (int way = 0; way < WAYS; way++) {
        shapes[count] = Strokes.moved(marks[mark], way);
        count++;
      }
    }
    return count;
  }

  private boolean isFreeOf(int count, int set, int k) {
    for (int i = 0; i < count; i++) {
      int shape = shapes[i];
      boolean within = (set & shape) == set || (set & shape) == shape;
      if (within && Integer.bitCount(set ^ shape) <= k) {
        return false;
      }
    }
    return true;
  }

  private boolean isApartFrom(int count, int set, int k) {
    for (int i = 0; i < count; i++) {
      if (Integer.bitCount(set ^ shapes[i]) < k) {
        return false;
      }
    }
    return true;
  }

  private int fittingWays(int mark) {
    int ways = 0;
    for (int way = 0; way < WAYS; way++) {
      if (held.fits(Strokes.moved(held.now.strokes[mark], way))) {
        ways |= 1 << way;
      }
    }
    return ways;
  }

  /** The shapes of a MARK that fit go to shapes behind the first ones: how many there are then. */
  private int gatherFitting(int mark, int first) {
    int count = first;
    for (int way = 0; way < WAYS; way++) {
      int shape = Strokes.moved(held.now.strokes[mark], way);
      if (held.fits(shape)) {
        shapes[count] = shape;
        count++;
      }
    }
    return count;
  }

  private int bestQuestion(int count) {
    int best = NONE;
    int least = count + 1;
    for (int stroke = 0; stroke < STROKES; stroke++) {
      int having = 0;
      for (int i = 0; i < count; i++) {
        having += shapes[i] >> stroke & 1;
      }
      int greater = Math.max(having, count - having);
      boolean told = ((held.seen | held.unseen) >> stroke & 1) == 1;
      if (!told && greater < least) {
        least = greater;
        best = stroke;
      }
    }
    return best;
  }

  private boolean agrees(Text law) {
    for (int i = 0; i < held.said; i++) {
      int wears = laws.wearsBy(law, held.now, held.saidMark[i], held.saidStroke[i]);
      if (wears != held.saidWears[i]) {
        return false;
      }
    }
    return true;
  }

  // ---- sets of strokes

  /** What is so of any set of STROKES (bits), whoever's it is. */
  private static final class Strokes {
    // The two points (bits) of each stroke.
    private static final int[] POINTS_OF = {
      3, 6, 24, 48, 192, 384,
      9, 18, 36, 72, 144, 288,
      17, 34, 136, 272,
      10, 20, 80, 160
    };

    // For each WAY, where each stroke comes to by it.
    private static final int[] MOVED = {
      0, 1, 2, 3, 4, 5, 6, 7, 8, 9, 10, 11, 12, 13, 14, 15, 16, 17, 18, 19,
      8, 11, 7, 10, 6, 9, 1, 3, 5, 0, 2, 4, 17, 19, 16, 18, 13, 15, 12, 14,
      5, 4, 3, 2, 1, 0, 11, 10, 9, 8, 7, 6, 15, 14, 13, 12, 19, 18, 17, 16,
      9, 6, 10, 7, 11, 8, 4, 2, 0, 5, 3, 1, 18, 16, 19, 17, 14, 12, 15, 13,
      1, 0, 3, 2, 5, 4, 8, 7, 6, 11, 10, 9, 17, 16, 19, 18, 13, 12, 15, 14,
      11, 8, 10, 7, 9, 6, 5, 3, 1, 4, 2, 0, 15, 13, 14, 12, 19, 17, 18, 16,
      4, 5, 2, 3, 0, 1, 9, 10, 11, 6, 7, 8, 18, 19, 16, 17, 14, 15, 12, 13,
      6, 9, 7, 10, 8, 11, 0, 2, 4, 1, 3, 5, 12, 14, 13, 15, 16, 18, 17, 19
    };

    static int between(int a, int b) {
      int points = 1 << a | 1 << b;
      for (int stroke = 0; stroke < STROKES; stroke++) {
        if (POINTS_OF[stroke] == points) {
          return stroke;
        }
      }
      return NONE;
    }

    static int moved(int strokes, int way) {
      int result = 0;
      for (int stroke = 0; stroke < STROKES; stroke++) {
        if ((strokes >> stroke & 1) == 1) {
          result |= 1 << MOVED[way * STROKES + stroke];
        }
      }
      return result;
    }

    static int touched(int strokes) {
      int points = 0;
      for (int stroke = 0; stroke < STROKES; stroke++) {
        if ((strokes >> stroke & 1) == 1) {
          points |= POINTS_OF[stroke];
        }
      }
      return points;
    }

    static int oddPoints(int strokes) {
      int points = 0;
      for (int stroke = 0; stroke < STROKES; stroke++) {
        if ((strokes >> stroke & 1) == 1) {
          points ^= POINTS_OF[stroke];
        }
      }
      return points;
    }

    static int pointsOfOne(int strokes) {
      int once = 0;
      int more = 0;
      for (int stroke = 0; stroke < STROKES; stroke++) {
        if ((strokes >> stroke & 1) == 1) {
          more |= once & POINTS_OF[stroke];
          once |= POINTS_OF[stroke];
        }
      }
      return once & ~more;
    }

    /** The points that strokes join with one, itself too. */
    static int joinedWith(int point, int strokes) {
      int before = 0;
      int reached = 1 << point;
      for (int round = 1; round < POINTS && reached != before; round++) {
        before = reached;
        for (int stroke = 0; stroke < STROKES; stroke++) {
          if ((strokes >> stroke & 1) == 1 && (POINTS_OF[stroke] & reached) != 0) {
            reached |= POINTS_OF[stroke];
          }
        }
      }
      return reached;
    }

    static int countPieces(int strokes) {
      int pieces = 0;
      int left = touched(strokes);
      for (int point = 0; point < POINTS; point++) {
        if ((left >> point & 1) == 1) {
          left &= ~joinedWith(point, strokes);
          pieces++;
        }
      }
      return pieces;
    }

    static int countHoles(int strokes) {
      int points = Integer.bitCount(touched(strokes));
      return Integer.bitCount(strokes) + countPieces(strokes) - points;
    }

    static int countCrossings(int strokes) {
      return Integer.bitCount(strokes >> 12 & strokes >> 16 & 15);
    }

    static int countPens(int strokes) {
      int pens = 0;
      int odd = oddPoints(strokes);
      int left = touched(strokes);
      for (int point = 0; point < POINTS; point++) {
        if ((left >> point & 1) == 1) {
          int piece = joinedWith(point, strokes);
          left &= ~piece;
          pens += Math.max(1, Integer.bitCount(odd & piece) / 2);
        }
      }
      return pens;
    }

    /** The TRAIL goes to points: how many it has, 0 if there is none. */
    static int trailInto(int[] points, int strokes) {
      if (countPens(strokes) != 1) {
        return 0;
      }
      int odd = oddPoints(strokes);
      int at = placeOfLowest(odd != 0 ? odd : touched(strokes));
      int left = strokes;
      int count = 0;
      while (left != 0 && at < POINTS && count + 1 < points.length) {
        points[count] = at;
        count++;
        int next = nextOnTrail(at, left);
        int stroke = between(at, next);
        left = stroke == NONE ? 0 : left & ~(1 << stroke);
        at = next;
      }
      points[count] = at;
      return count + 1;
    }

    /** The lowest point to go to from one, so that what is left can all be drawn yet. */
    private static int nextOnTrail(int at, int left) {
      for (int point = 0; point < POINTS; point++) {
        int stroke = between(at, point);
        if (stroke != NONE && (left >> stroke & 1) == 1) {
          int then = left & ~(1 << stroke);
          if (then == 0 || joinedWith(point, then) == touched(then)) {
            return point;
          }
        }
      }
      return at;
    }

    static int countApart(int first, int second, int way) {
      return Integer.bitCount(first ^ moved(second, way));
    }

    /** The lowest WAY of the second by which it is fewest strokes apart from the first. */
    static int nearestWay(int first, int second) {
      int nearest = 0;
      int fewest = STROKES + 1;
      for (int way = 0; way < WAYS; way++) {
        int apart = countApart(first, second, way);
        if (apart < fewest) {
          fewest = apart;
          nearest = way;
        }
      }
      return nearest;
    }

    /** The lowest WAY of the second by which it has all strokes of the first; NONE if there is none. */
    static int wayInto(int first, int second) {
      for (int way = 0; way < WAYS; way++) {
        if ((first & ~moved(second, way)) == 0) {
          return way;
        }
      }
      return NONE;
    }

    /** Whether the first is the second when k strokes at most are added. */
    static boolean isMadeOf(int first, int second, int k) {
      int more = Integer.bitCount(second) - Integer.bitCount(first);
      return more >= 0 && more <= k && wayInto(first, second) != NONE;
    }

    static boolean isNear(int one, int other, int k) {
      return isMadeOf(one, other, k) || isMadeOf(other, one, k);
    }

    /**
     * How many of those free join what nothing joined, as strokes are added till none can be that
     * closes no line: however that is done, they are as many, so that a game is that many turns.
     */
    static int countJoining(int strokes, int free) {
      int there = strokes;
      int joining = 0;
      for (int stroke = 0; stroke < STROKES; stroke++) {
        int one = 1 << stroke;
        boolean can = (free & ~there & one) != 0;
        if (can && countHoles(there | one) == countHoles(there)) {
          there |= one;
          joining++;
        }
      }
      return joining;
    }

    /** How many sets of n strokes there are, n from 0 to 4. */
    static int countSets(int n) {
      int sets = 1;
      for (int i = 0; i < n; i++) {
        sets = sets * (STROKES - i) / (i + 1);
      }
      return sets;
    }

    static int lowestOf(int n) {
      return (1 << n) - 1;
    }

    /** The place of the lowest bit; 32 if there is none. */
    private static int placeOfLowest(int bits) {
      return Integer.bitCount((bits & -bits) - 1);
    }

    /** The next higher set of as many strokes: the lowest that can move up does, those below fall back. */
    static int nextOf(int set) {
      if (set <= 0) {
        return 0;
      }
      int raised = set + (set & -set);
      return raised | (set ^ raised) >>> 2 + placeOfLowest(set);
    }

    /** How many sets of n strokes are the same by a WAY: each round of strokes is in whole or not. */
    static long countKeptBy(int way, int n, long[] sets) {
      for (int size = 1; size <= STROKES; size++) {
        sets[size] = 0;
      }
      sets[0] = 1;
      int seen = 0;
      for (int stroke = 0; stroke < STROKES; stroke++) {
        int length = 0;
        for (int at = stroke; (seen >> at & 1) == 0 && length < STROKES; length++) {
          seen |= 1 << at;
          at = MOVED[way * STROKES + at];
        }
        for (int size = STROKES; length > 0 && size >= length; size--) {
          sets[size] += sets[size - length];
        }
      }
      return sets[n];
    }
  }

  // ---- texts

  /** A TEXT as it was read: what its laws do, one behind the other, and its CLAUSES. */
  private static final class Text {
    // Each holds a kind (of which 64 are enough) and 64 times what goes with it.
    final int[] code = new int[MOST_BYTES];
    int length;
    boolean hasWears;
    int wearsFrom;
    int wearsTo;
    boolean hasFee;
    int feeFrom;
    int feeTo;
    int clauses;
    final int[] verb = new int[MOST_CLAUSES];
    final int[] first = new int[MOST_CLAUSES];
    final int[] second = new int[MOST_CLAUSES];

    void empty() {
      length = 0;
      hasWears = false;
      hasFee = false;
      clauses = 0;
    }

    /** Writes one thing that a law does: its place. */
    int write(int kind, int with) {
      if (length < MOST_BYTES) {
        code[length] = with * 64 + kind;
        length++;
      }
      return length - 1;
    }

    void aim(int place, int target) {
      if (place >= 0 && place < MOST_BYTES) {
        code[place] = code[place] % 64 + target * 64;
      }
    }
  }

  /** The TOKENS of a tape: of each its kind, its first byte and, of DIGITS, what number they are. */
  private static final class Tokens {
    final int[] kind = new int[MOST_BYTES + 1];
    final int[] place = new int[MOST_BYTES + 1];
    final int[] value = new int[MOST_BYTES + 1];
    private final int[] bytes;
    private int length;
    private int next;

    Tokens(int[] tape) {
      bytes = tape;
    }

    /** Takes all TOKENS of the first bytes; the last one is FINISH, at the length. */
    void take(int tapeLength) {
      length = Math.min(tapeLength, MOST_BYTES);
      next = 0;
      int count = 0;
      while (next < length && count < MOST_BYTES) {
        int sign = bytes[next];
        if (sign == ' ' || sign == '\n') {
          next++;
        } else {
          place[count] = next;
          kind[count] = isLetter(sign) ? takeWord() : isDigit(sign) ? takeDigits(count) : takeSign();
          count++;
        }
      }
      place[count] = length;
      kind[count] = FINISH;
    }

    private static boolean isLetter(int sign) {
      return sign >= 'a' && sign <= 'z' || sign >= 'A' && sign <= 'Z';
    }

    private static boolean isDigit(int sign) {
      return sign >= '0' && sign <= '9';
    }

    private int takeWord() {
      int from = next;
      while (next < length && isLetter(bytes[next])) {
        next++;
      }
      int word = 0;
      int same = from;
      for (int i = 0; i < WORDS.length(); i++) {
        char letter = WORDS.charAt(i);
        if (letter != ' ') {
          same = same >= from && same < next && bytes[same] == letter ? same + 1 : NONE;
        } else if (same == next) {
          return word;
        } else {
          word++;
          same = from;
        }
      }
      return UNKNOWN;
    }

    private int takeDigits(int token) {
      int number = 0;
      while (next < length && isDigit(bytes[next])) {
        // Held just above the most, since a long one would wrap around.
        number = Math.min(MOST_NUMBER + 1, number * 10 + bytes[next] - '0');
        next++;
      }
      value[token] = number;
      return DIGITS;
    }

    private int takeSign() {
      int sign = bytes[next];
      next++;
      if ((sign == '<' || sign == '>') && next < length && bytes[next] == '=') {
        next++;
        return sign == '<' ? AT_MOST : AT_LEAST;
      }
      int found = SIGNS.indexOf((char) sign);
      return found < 0 ? UNKNOWN : BELOW + found;
    }
  }

  /** Reads TOKENS as a TEXT; the first FAULT ends it, since no TOKEN is come to behind it. */
  private static final class Reader {
    private final Tokens tokens;
    private int at;
    private int kind;
    private boolean inWears;
    private Text into;
    int fault;
    int place;

    Reader(int[] tape) {
      tokens = new Tokens(tape);
    }

    void read(int length, Text text) {
      tokens.take(length);
      at = 0;
      kind = tokens.kind[0];
      into = text;
      into.empty();
      fault = 0;
      place = NONE;
      for (int i = 0; i <= MOST_CLAUSES && kind != FINISH && fault == 0; i++) {
        readClause();
      }
    }

    private void refuse(int what) {
      if (fault == 0) {
        fault = what;
        place = tokens.place[at];
      }
      // Nothing more is taken: no rule takes this.
      kind = UNKNOWN;
    }

    private void advance() {
      if (fault == 0 && at < MOST_BYTES) {
        at++;
        kind = tokens.kind[at];
      }
    }

    private void expect(int wanted) {
      if (kind == wanted) {
        advance();
      } else {
        refuse(1);
      }
    }

    private int takeNumber(int low, int high) {
      int number = tokens.value[at];
      if (kind != DIGITS) {
        refuse(1);
      } else if (number < low || number > high) {
        refuse(2);
      } else {
        advance();
        return number;
      }
      return low;
    }

    private void readClause() {
      int verb = kind;
      if (verb > YEAR) {
        refuse(1);
      } else if (verb == WEARS && into.hasWears || verb == FEE && into.hasFee) {
        refuse(4);
      } else if (into.clauses >= MOST_CLAUSES) {
        refuse(6);
      } else {
        int clause = into.clauses;
        into.verb[clause] = verb;
        into.clauses++;
        advance();
        if (verb == WEARS || verb == FEE) {
          readLaw(verb == WEARS);
        } else {
          readDeed(verb, clause);
        }
        expect(SEMICOLON);
      }
    }

    private void readLaw(boolean wears) {
      inWears = wears;
      int from = into.length;
      readSum(0);
      if (wears) {
        into.hasWears = true;
        into.wearsFrom = from;
        into.wearsTo = into.length;
      } else {
        into.hasFee = true;
        into.feeFrom = from;
        into.feeTo = into.length;
      }
    }

    private void readDeed(int verb, int clause) {
      if (verb == DRAW) {
        into.first[clause] = readShape(0);
      } else if (verb == YEAR) {
        into.first[clause] = takeNumber(1, MOST_YEARS);
      } else if (verb == RENEW) {
        into.first[clause] = takeNumber(0, MARKS - 1);
      } else {
        into.first[clause] = takeNumber(0, STROKES - 1);
        expect(verb == ADD ? TO : OF);
        into.second[clause] = takeNumber(0, MARKS - 1);
      }
    }

    // In what follows open tells how many are open around: the 9th is refused, so it ends.

    private int readShape(int open) {
      int shape = readPart(open);
      for (int i = 0; i < MOST_BYTES && (kind == WITH || kind == LESS); i++) {
        boolean with = kind == WITH;
        advance();
        int part = readPart(open);
        shape = with ? shape | part : shape & ~part;
      }
      return shape;
    }

    private int readPart(int open) {
      int part = kind;
      switch (part) {
        case STROKE:
          advance();
          return 1 << takeNumber(0, STROKES - 1);
        case BAR:
          advance();
          return 0b11 << 2 * takeNumber(0, 2);
        case POST:
          advance();
          return 0b1001 << 6 + takeNumber(0, 2);
        case FRAME:
          advance();
          return 0b1011_0111_0011;
        case TURN:
        case TIP:
        case OPEN:
          return readOpenPart(open);
        default:
          refuse(1);
          return 0;
      }
    }

    private int readOpenPart(int open) {
      int part = kind;
      if (open >= MOST_OPEN) {
        refuse(3);
        return 0;
      }
      advance();
      if (part == OPEN) {
        int shape = readShape(open + 1);
        expect(CLOSE);
        return shape;
      }
      return Strokes.moved(readPart(open + 1), part == TURN ? 1 : 4);
    }

    private void readSum(int open) {
      readProduct(open);
      for (int i = 0; i < MOST_BYTES && (kind == PLUS || kind == MINUS); i++) {
        int sign = kind;
        advance();
        readProduct(open);
        into.write(sign, 0);
      }
    }

    private void readProduct(int open) {
      readOne(open);
      for (int i = 0; i < MOST_BYTES && (kind == TIMES || kind == OVER); i++) {
        int sign = kind;
        advance();
        readOne(open);
        into.write(sign, 0);
      }
    }

    private void readOne(int open) {
      if (kind == DIGITS) {
        into.write(DIGITS, takeNumber(0, MOST_NUMBER));
      } else if (kind == OPEN || kind == MINUS || kind == SIZE || kind == HAS || kind == IF) {
        readOpenOne(open);
      } else {
        readName();
      }
    }

    private void readName() {
      int name = kind;
      boolean isName = name == YEAR || name >= NUMBER && name <= PIECES;
      if (!isName) {
        refuse(1);
      } else if (name == WHICH && !inWears || name == PIECES && inWears) {
        refuse(5);
      } else {
        into.write(name, 0);
        advance();
      }
    }

    private void readOpenOne(int open) {
      int sign = kind;
      if (open >= MOST_OPEN) {
        refuse(3);
        return;
      }
      advance();
      if (sign == OPEN) {
        readSum(open + 1);
        expect(CLOSE);
      } else if (sign == IF) {
        readChoice(open + 1);
      } else {
        readOne(open + 1);
        into.write(sign == MINUS ? NEGATE : sign, 0);
      }
    }

    private void readChoice(int open) {
      readEither(open);
      expect(THEN);
      int then = into.write(THEN, 0);
      readSum(open);
      expect(ELSE);
      int other = into.write(ELSE, 0);
      into.aim(then, into.length);
      readSum(open);
      expect(END);
      into.aim(other, into.length);
    }

    private void readEither(int open) {
      readBoth(open);
      for (int i = 0; i < MOST_BYTES && kind == OR; i++) {
        advance();
        readBoth(open);
        into.write(OR, 0);
      }
    }

    private void readBoth(int open) {
      readAsk(open);
      for (int i = 0; i < MOST_BYTES && kind == AND; i++) {
        advance();
        readAsk(open);
        into.write(AND, 0);
      }
    }

    private void readAsk(int open) {
      if (kind == NOT) {
        readNot(open);
        return;
      }
      readSum(open);
      int sign = kind;
      if (sign >= BELOW && sign <= UNLIKE || sign == AT_MOST || sign == AT_LEAST) {
        advance();
        readSum(open);
        into.write(sign, 0);
      } else {
        refuse(1);
      }
    }

    private void readNot(int open) {
      if (open >= MOST_OPEN) {
        refuse(3);
        return;
      }
      advance();
      readAsk(open + 1);
      into.write(NOT, 0);
    }
  }

  /** What laws come to, of a MARK and a stroke in an office as it is now. */
  private static final class Laws {
    private final int[] stack = new int[MOST_BYTES];
    private int height;

    int wearsBy(Text law, Now now, int mark, int stroke) {
      if (law == null || !law.hasWears) {
        return 3;
      }
      int value = run(law, law.wearsFrom, law.wearsTo, now, mark, stroke);
      return Math.max(0, Math.min(10, value));
    }

    int feeBy(Text law, Now now, int mark) {
      if (law == null || !law.hasFee) {
        return Integer.bitCount(now.strokes[mark]);
      }
      int value = run(law, law.feeFrom, law.feeTo, now, mark, NONE);
      return Math.max(0, Math.min(99, value));
    }

    private void push(int value) {
      if (height < stack.length) {
        stack[height] = value;
        height++;
      }
    }

    private int pop() {
      if (height <= 0) {
        return 0;
      }
      height--;
      return stack[height];
    }

    /** Does what a law does, from its first place to its last: what that comes to. */
    private int run(Text law, int from, int to, Now now, int mark, int stroke) {
      height = 0;
      int end = Math.min(to, law.code.length);
      for (int at = from; at >= 0 && at < end; at++) {
        int kind = law.code[at] % 64;
        int with = law.code[at] / 64;
        if (kind == DIGITS) {
          push(with);
        } else if (kind == PIECES) {
          push(Strokes.countPieces(now.strokes[mark]));
        } else if (kind == THEN || kind == ELSE) {
          // Leaps go forward alone.
          boolean leaps = kind == ELSE || pop() == 0;
          at = leaps ? Math.max(at, with - 1) : at;
        } else if (kind == SIZE || kind == HAS || kind == NEGATE || kind == NOT) {
          push(ofOne(kind, pop(), now, mark));
        } else if (kind == YEAR || kind >= NUMBER && kind <= WHICH) {
          push(named(kind, now, mark, stroke));
        } else {
          int right = pop();
          push(ofTwo(kind, pop(), right));
        }
      }
      return pop();
    }

    private static int named(int name, Now now, int mark, int stroke) {
      int strokes = now.strokes[mark];
      switch (name) {
        case YEAR:
          return now.year;
        case NUMBER:
          return mark;
        case HOW_MANY:
          return Integer.bitCount(strokes);
        case ENDS:
          return Integer.bitCount(Strokes.oddPoints(strokes));
        case FUND:
          return now.fund;
        default:
          return stroke;
      }
    }

    private static int ofOne(int kind, int value, Now now, int mark) {
      switch (kind) {
        case SIZE:
          return now.isMark(value) ? Integer.bitCount(now.strokes[value]) : 0;
        case HAS:
          return now.has(mark, value) ? 1 : 0;
        case NOT:
          return 1 - value;
        default:
          return -value;
      }
    }

    private static int ofTwo(int kind, int left, int right) {
      switch (kind) {
        case PLUS:
          return hold((long) left + right);
        case MINUS:
          return hold((long) left - right);
        case TIMES:
          return hold((long) left * right);
        case OVER:
          return right == 0 ? 0 : hold((long) left / right);
        case OR:
          return left | right;
        case AND:
          return left & right;
        default:
          return compares(kind, left, right) ? 1 : 0;
      }
    }

    private static boolean compares(int kind, int left, int right) {
      switch (kind) {
        case BELOW:
          return left < right;
        case AT_MOST:
          return left <= right;
        case ABOVE:
          return left > right;
        case AT_LEAST:
          return left >= right;
        case SAME:
          return left == right;
        default:
          return left != right;
      }
    }

    private static int hold(long value) {
      return (int) Math.max(-MOST_VALUE, Math.min(MOST_VALUE, value));
    }
  }

  // ---- what is now, what was

  /** What a STEP changes and taking it back brings again. */
  private static final class Now {
    int marks;
    final int[] strokes = new int[MARKS];
    int fund;
    int year;
    int x = 431;
    // The BOOK, from the eldest line on; a line holds all four numbers that it tells.
    int lines;
    private final int[] book = new int[MOST_LINES];

    void copyFrom(Now other) {
      marks = other.marks;
      fund = other.fund;
      year = other.year;
      x = other.x;
      lines = other.lines;
      System.arraycopy(other.strokes, 0, strokes, 0, MARKS);
      System.arraycopy(other.book, 0, book, 0, MOST_LINES);
    }

    boolean isMark(int mark) {
      return mark >= 0 && mark < marks;
    }

    boolean has(int mark, int stroke) {
      boolean can = mark >= 0 && mark < marks && stroke >= 0 && stroke < STROKES;
      return can && (strokes[mark] >> stroke & 1) == 1;
    }

    boolean canChange(int mark, int stroke, boolean in) {
      return isMark(mark) && isStroke(stroke) && has(mark, stroke) != in;
    }

    /** Adds a stroke that isn't in a MARK or takes off one that is, and writes why. */
    void change(int mark, int stroke, int what) {
      strokes[mark] ^= 1 << stroke;
      writeDown(mark, what, stroke);
    }

    void writeDown(int mark, int what, int stroke) {
      if (lines >= MOST_LINES) {
        System.arraycopy(book, 1, book, 0, MOST_LINES - 1);
        lines = MOST_LINES - 1;
      }
      book[lines] = ((year * MARKS + mark) * 4 + what) * 32 + stroke + 1;
      lines++;
    }

    int lineTells(int i, int what) {
      int line = book[i];
      switch (what) {
        case 0:
          return line / 32 / 4 / MARKS;
        case 1:
          return line / 32 / 4 % MARKS;
        case 2:
          return line / 32 % 4;
        default:
          return line % 32 - 1;
      }
    }

    /** X for a draw; it is anew behind it. */
    int nextX() {
      int drawn = x;
      x = (x * 677 + 557) % 30983;
      return drawn;
    }

    /** A YEAR: how many strokes wear off in it. */
    int passYear(Laws laws, Text rules) {
      int worn = 0;
      for (int mark = 0; mark < marks; mark++) {
        fund = Math.min(MOST_FUND, fund + laws.feeBy(rules, this, mark));
        int stroke = nextX() % STROKES;
        if (has(mark, stroke) && nextX() % 10 < laws.wearsBy(rules, this, mark, stroke)) {
          change(mark, stroke, WORN_OFF);
          worn++;
        }
      }
      year++;
      return worn;
    }
  }

  /** The latest STEPS: what was so ahead of each; a full one forgets the eldest. */
  private static final class Steps {
    private final Now[] ahead = new Now[MOST_STEPS];
    private int eldest;
    int count;

    Steps() {
      for (int i = 0; i < MOST_STEPS; i++) {
        ahead[i] = new Now();
      }
    }

    void push(Now now) {
      if (count < MOST_STEPS) {
        count++;
      } else {
        eldest = (eldest + 1) % MOST_STEPS;
      }
      ahead[(eldest + count - 1) % MOST_STEPS].copyFrom(now);
    }

    /** Takes the latest off, of which there must be one. */
    Now pop() {
      count = Math.max(0, count - 1);
      return ahead[(eldest + count) % MOST_STEPS];
    }

    void copyFrom(Steps other) {
      eldest = other.eldest;
      count = other.count;
      for (int i = 0; i < MOST_STEPS; i++) {
        ahead[i].copyFrom(other.ahead[i]);
      }
    }
  }

  /** All that an IMAGE keeps. TEXTS are not told anew while an IMAGE has them: it keeps how many. */
  private static final class Held {
    final Now now = new Now();
    final Steps steps = new Steps();
    final int[] registered = new int[MARKS];
    int texts;
    int ruling = NONE;
    int seen;
    int unseen;
    int said;
    final int[] saidMark = new int[MOST_SAID];
    final int[] saidStroke = new int[MOST_SAID];
    final int[] saidWears = new int[MOST_SAID];

    void copyFrom(Held other) {
      now.copyFrom(other.now);
      steps.copyFrom(other.steps);
      texts = other.texts;
      ruling = other.ruling;
      seen = other.seen;
      unseen = other.unseen;
      said = other.said;
      System.arraycopy(other.registered, 0, registered, 0, MARKS);
      System.arraycopy(other.saidMark, 0, saidMark, 0, MOST_SAID);
      System.arraycopy(other.saidStroke, 0, saidStroke, 0, MOST_SAID);
      System.arraycopy(other.saidWears, 0, saidWears, 0, MOST_SAID);
    }

    /** A MARK of strokes: its number, NONE if there are too many. */
    int register(int strokes) {
      int mark = now.marks;
      if (mark >= MARKS) {
        return NONE;
      }
      registered[mark] = strokes;
      now.strokes[mark] = strokes;
      now.marks++;
      return mark;
    }

    int countOther(int mark) {
      return Integer.bitCount(now.strokes[mark] ^ registered[mark]);
    }

    int otherThanRegistered() {
      int marks = 0;
      for (int mark = 0; mark < now.marks; mark++) {
        if (now.strokes[mark] != registered[mark]) {
          marks |= 1 << mark;
        }
      }
      return marks;
    }

    /** A MARK is RENEWED: how many strokes are other. */
    int restore(int mark) {
      int other = countOther(mark);
      now.strokes[mark] = registered[mark];
      now.writeDown(mark, RENEWED, NONE);
      return other;
    }

    /** What an age does but for YEARS. */
    void ageByHand(int x) {
      int mark = x / 6 % MARKS;
      int stroke = x % STROKES;
      int deed = x % 6;
      if (deed < 2 && now.canChange(mark, stroke, true)) {
        now.change(mark, stroke, ADDED);
      } else if (deed == 2 && now.canChange(mark, stroke, false)) {
        now.change(mark, stroke, RUBBED);
      } else if (deed == 3 && x % 4 == 1 && now.isMark(mark) && countOther(mark) > 0) {
        restore(mark);
      }
    }

    /** The latest STEP is taken back: how many can be yet, NONE if there is none. */
    int takeBack() {
      if (steps.count == 0) {
        return NONE;
      }
      int marks = now.marks;
      now.copyFrom(steps.pop());
      // MARKS told since stay, but nothing that was done to them.
      for (int mark = now.marks; mark < marks; mark++) {
        now.strokes[mark] = registered[mark];
      }
      now.marks = marks;
      return steps.count;
    }

    boolean fits(int shape) {
      return (seen & ~shape) == 0 && (unseen & shape) == 0;
    }

    int countTold() {
      return Integer.bitCount(seen | unseen);
    }
  }
}
