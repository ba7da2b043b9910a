import java.util.Random;

/** Runs of calls by chance: each answer is held against PlainOffice's (a fixed seed, so always the same). */
public final class RandomRunsTest {
  private static final int RUNS = 3000;
  // An object is asked 512 times at most, and a look at all of it takes some 60.
  private static final int MOST_ASKED = 512 - 2 * 65;

  private final Random random;
  private final RandomTexts texts;
  private MarkOffice x = new MarkOffice();
  private PlainOffice plain = new PlainOffice();
  private String run = "";
  private int asked = 0;

  private RandomRunsTest(long seed) {
    random = new Random(seed);
    texts = new RandomTexts(seed + 1);
  }

  public static void main(String[] args) {
    long seed = args.length > 0 ? Long.parseLong(args[0]) : 20261118;
    int runs = args.length > 1 ? Integer.parseInt(args[1]) : RUNS;
    RandomRunsTest test = new RandomRunsTest(seed);
    for (int i = 0; i < runs && !Due.anyWrong(); i++) {
      test.run = "run " + i;
      test.oneRun();
    }
    Due.close("RandomRunsTest");
  }

  private void oneRun() {
    x = new MarkOffice();
    plain = new PlainOffice();
    asked = 0;
    for (int i = 0; i < 3 + random.nextInt(6); i++) {
      mark(strokes());
    }
    while (asked < MOST_ASKED && !Due.anyWrong()) {
      oneCall();
    }
    wholeState();
  }

  private void same(String call, long got, long want) {
    asked++;
    Due.due(run + ", " + call, got, want);
  }

  private void same(String call, boolean got, boolean want) {
    same(call, got ? 1 : 0, want ? 1 : 0);
  }

  /** Mostly 0 .. most, seldom what is just or far beside it. */
  private int pick(int most) {
    switch (random.nextInt(40)) {
      case 0:
        return -1;
      case 1:
        return most + 1;
      case 2:
        return random.nextInt();
      default:
        return random.nextInt(most + 1);
    }
  }

  private int mark() {
    return pick(7);
  }

  private int stroke() {
    return pick(19);
  }

  /** Sets of few, of some or of many strokes, seldom what is none. */
  private int strokes() {
    int all = (1 << 20) - 1;
    switch (random.nextInt(8)) {
      case 0:
        return random.nextInt(30) == 0 ? random.nextInt() : random.nextInt(1 << 20);
      case 1:
        return random.nextInt() & random.nextInt() & all;
      case 2:
        return all & ~(random.nextInt() & random.nextInt() & random.nextInt());
      case 3:
        return 1 << random.nextInt(20) | 1 << random.nextInt(20);
      default:
        return random.nextInt() & random.nextInt() & random.nextInt() & all;
    }
  }

  private int mark(int strokes) {
    int number = x.mark(strokes);
    same("mark(" + strokes + ")", number, plain.mark(strokes));
    return number;
  }

  private void oneCall() {
    switch (random.nextInt(16)) {
      case 0:
      case 1:
        tellText();
        break;
      case 2:
      case 3:
      case 4:
      case 5:
        changes();
        break;
      case 6:
      case 7:
        passes();
        break;
      case 8:
      case 9:
        isNow();
        break;
      case 10:
        ofStrokes();
        break;
      case 11:
        marksAgainstMarks();
        break;
      case 12:
      case 13:
        witnesses();
        break;
      case 14:
        games();
        break;
      default:
        images();
    }
  }

  private void tellText() {
    if (random.nextInt(3) == 0) {
      int text = random.nextInt(6) - 1;
      same("by(" + text + ")", x.by(text), plain.by(text));
      return;
    }
    String text = texts.next();
    if (random.nextInt(20) != 0) {
      same("end(0)", x.end(0), plain.end(0));
    }
    for (int from = 0; from < text.length(); from += 20) {
      int[] w = Due.words(text, from);
      same("feed", x.feed(w[0], w[1], w[2], w[3], w[4]), plain.feed(w[0], w[1], w[2], w[3], w[4]));
    }
    int length = random.nextInt(30) == 0 ? pick(300) : text.length();
    same("end(" + length + ")", x.end(length), plain.end(length));
    same("text() of " + text, x.text(), plain.text());
    int what = random.nextInt(8) == 0 ? pick(2) : random.nextInt(2);
    same("fault(" + what + ") of " + text, x.fault(what), plain.fault(what));
    same("about(6)", x.about(6), plain.about(6));
  }

  private void changes() {
    int mark = mark();
    int stroke = stroke();
    switch (random.nextInt(6)) {
      case 0:
      case 1:
        same("add(" + mark + ", " + stroke + ")", x.add(mark, stroke), plain.add(mark, stroke));
        break;
      case 2:
        same("rub(" + mark + ", " + stroke + ")", x.rub(mark, stroke), plain.rub(mark, stroke));
        break;
      case 3:
        same("renew(" + mark + ")", x.renew(mark), plain.renew(mark));
        break;
      case 4:
        same("undo()", x.undo(), plain.undo());
        break;
      default:
        if (random.nextInt(4) == 0) {
          mark(strokes());
        } else {
          said();
        }
    }
  }

  private void said() {
    int mark = mark();
    int stroke = stroke();
    int wears = random.nextInt(3) == 0 ? pick(10) : plain.wears(mark, stroke);
    same("said(" + mark + ", " + stroke + ", " + wears + ")",
        x.said(mark, stroke, wears), plain.said(mark, stroke, wears));
    same("whose()", x.whose(), plain.whose());
  }

  private void passes() {
    switch (random.nextInt(4)) {
      case 0: {
        int n = random.nextInt(6) == 0 ? pick(60) : 1 + random.nextInt(5);
        same("year(" + n + ")", x.year(n), plain.year(n));
        break;
      }
      case 1: {
        int text = random.nextInt(6) - 1;
        same("played(" + text + ")", x.played(text), plain.played(text));
        break;
      }
      case 2: {
        int seed = pick(9999);
        int n = pick(40);
        same("ages(" + seed + ", " + n + ")", x.ages(seed, n), plain.ages(seed, n));
        break;
      }
      default: {
        int n = pick(60);
        int mark = mark();
        same("foretold(" + n + ", " + mark + ")", x.foretold(n, mark), plain.foretold(n, mark));
      }
    }
  }

  private void isNow() {
    int mark = mark();
    int stroke = stroke();
    same("wears(" + mark + ", " + stroke + ")", x.wears(mark, stroke), plain.wears(mark, stroke));
    int i = pick(25);
    for (int times = 0; times < 2; times++) {
      int what = pick(7);
      same("of(" + mark + ", " + what + ")", x.of(mark, what), plain.of(mark, what));
      int tells = pick(3);
      same("book(" + i + ", " + tells + ")", x.book(i, tells), plain.book(i, tells));
      same("ledger(" + tells + ")", x.ledger(tells), plain.ledger(tells));
    }
    same("richest()", x.richest(), plain.richest());
    same("worn()", x.worn(), plain.worn());
  }

  private void ofStrokes() {
    int set = strokes();
    int way = pick(7);
    int then = pick(7);
    same("turned(" + set + ", " + way + ")", x.turned(set, way), plain.turned(set, way));
    same("joined(" + way + ", " + then + ")", x.joined(way, then), plain.joined(way, then));
    same("own(" + set + ")", x.own(set), plain.own(set));
    same("least(" + set + ")", x.least(set), plain.least(set));
    same("pens(" + set + ")", x.pens(set), plain.pens(set, true));
    same("rim(" + set + ")", x.rim(set), plain.rim(set, true));
    for (int i : new int[] {-1, 0, pick(4), pick(19)}) {
      same("trail(" + set + ", " + i + ")", x.trail(set, i), plain.trail(set, i));
    }
    int a = pick(8);
    int b = pick(8);
    same("drawn(" + a + ", " + b + ")", x.drawn(a, b), plain.drawn(a, b));
    int n = pick(20);
    same("kinds(" + n + ")", x.kinds(n), plain.kinds(n));
  }

  private void marksAgainstMarks() {
    int a = mark();
    int b = mark();
    int k = random.nextInt(3) == 0 ? pick(20) : pick(6);
    String ab = a + ", " + b;
    same("alike(" + ab + ")", x.alike(a, b), plain.alike(a, b));
    same("way(" + ab + ")", x.way(a, b), plain.way(a, b));
    same("made(" + ab + ", false)", x.made(a, b, false), plain.made(a, b, false));
    same("made(" + ab + ", true)", x.made(a, b, true), plain.made(a, b, true));
    same("chain(" + ab + ", " + k + ")", x.chain(a, b, k), plain.chain(a, b, k));
    same("clash(" + k + ", false)", x.clash(k, false), plain.clash(k, false));
    same("clash(" + k + ", true)", x.clash(k, true), plain.clash(k, true));
    if (random.nextInt(12) == 0) {
      int n = random.nextInt(4) == 0 ? pick(4) : pick(2);
      same("free(" + n + ", " + k + ")", x.free(n, k), plain.free(n, k));
      same("apart(" + n + ", " + k + ")", x.apart(n, k), plain.apart(n, k));
    }
  }

  private void witnesses() {
    boolean seen = random.nextBoolean();
    int stroke = random.nextInt(8) == 0 ? -1 : stroke();
    same("witness(" + stroke + ", " + seen + ")", x.witness(stroke, seen), plain.witness(stroke, seen));
    same("which()", x.which(), plain.which());
    same("ask()", x.ask(), plain.ask());
    int mark = mark();
    same("ways(" + mark + ")", x.ways(mark), plain.ways(mark));
  }

  private void games() {
    int set = strokes();
    int free = random.nextInt(6) == 0 ? strokes() : random.nextInt() & random.nextInt() & (1 << 20) - 1;
    while (Integer.bitCount(free) > 7 && random.nextInt(9) != 0) {
      free &= free - 1;
    }
    same("game(" + set + ", " + free + ")", x.game(set, free), plain.game(set, free));
    same("play(" + set + ", " + free + ")", x.play(set, free), plain.play(set, free));
  }

  private void images() {
    switch (random.nextInt(8)) {
      case 0:
        same("back()", x.back(), plain.back());
        break;
      case 1:
      case 2:
        same("image()", x.image(), plain.image());
        break;
      case 3:
        wholeState();
        break;
      default: {
        int what = pick(6);
        same("about(" + what + ")", x.about(what), plain.about(what));
        same("is(" + what % 4 + ")", x.is(what % 4), plain.is(what % 4));
      }
    }
  }

  private void wholeState() {
    for (int what = -1; what <= 7; what++) {
      same("about(" + what + ")", x.about(what), plain.about(what));
      same("is(" + what + ")", x.is(what), plain.is(what));
    }
    for (int mark = 0; mark < 8; mark++) {
      same("of(" + mark + ", 0)", x.of(mark, 0), plain.of(mark, 0));
      same("of(" + mark + ", 1)", x.of(mark, 1), plain.of(mark, 1));
    }
    for (int i = -1; i < 26; i++) {
      int what = random.nextInt(4);
      same("book(" + i + ", " + what + ")", x.book(i, what), plain.book(i, what));
    }
  }
}
