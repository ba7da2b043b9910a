/** Promises 1 to 18: a new object, marks, the tape, texts, what changes marks, what is so now. */
final class BoundsOfCalls {
  private static final int ALL = Offices.ALL;
  private static final int[] NO_MARKS = {-1, 2, 8, 32, Offices.LOWEST, Offices.HIGHEST};
  private static final int[] NO_STROKES = {-1, 20, 31, 32, 33, -32, Offices.LOWEST, Offices.HIGHEST};
  private static final int[] NO_TEXTS = {-2, 1, 4, 32, Offices.LOWEST, Offices.HIGHEST};

  private BoundsOfCalls() {}

  static void look() {
    newObject();
    mark();
    noMark();
    feed();
    feedTooMuch();
    end();
    text();
    noText();
    fault();
    by();
    add();
    rub();
    renew();
    year();
    noYear();
    played();
    undo();
    of();
    wears();
    is();
    book();
    noLine();
  }

  private static void newObject() {
    Sentences.promise(1, "No mark");
    MarkOffice x = new MarkOffice();
    Due.due("about(0)", x.about(0), 0);
    for (int mark = 0; mark < 8; mark++) {
      Due.due("of(" + mark + ", 0)", x.of(mark, 0), -1);
    }
    Due.due("which()", x.which(), 0);
    Sentences.promise(1, "THE IMAGE is this");
    int[] seen = Offices.seen(new MarkOffice());
    MarkOffice y = Offices.busy();
    Due.due("back()", y.back(), 0);
    Offices.sameImage("back", Offices.seen(y), seen);
    Due.due("the first mark", y.mark(9), 0);
    Due.due("undo()", y.undo(), -1);
  }

  private static void mark() {
    Sentences.promise(2, "A MARK: its number");
    MarkOffice x = new MarkOffice();
    int[] strokes = {0, ALL, 1, 1 << 19, 1, 0, 2931, 5};
    for (int mark = 0; mark < 8; mark++) {
      Due.due("mark(" + strokes[mark] + ")", x.mark(strokes[mark]), mark);
    }
    for (int mark = 0; mark < 8; mark++) {
      Due.due("of(" + mark + ", 0)", x.of(mark, 0), strokes[mark]);
      Due.due("of(" + mark + ", 1)", x.of(mark, 1), strokes[mark]);
    }
    Due.due("is(3)", x.is(3), 0);
  }

  private static void noMark() {
    Sentences.promise(2, "NONE for others (bits of 20)");
    MarkOffice x = new MarkOffice();
    for (int strokes : new int[] {-1, 1 << 20, ALL + 2, Offices.LOWEST, Offices.HIGHEST, -ALL}) {
      Due.due("mark(" + strokes + ")", x.mark(strokes), -1);
    }
    Due.due("about(0)", x.about(0), 0);
    Sentences.promise(2, ", or if there are 8");
    for (int mark = 0; mark < 8; mark++) {
      Due.due("mark(1)", x.mark(1), mark);
    }
    Due.due("mark(0)", x.mark(0), -1);
    Due.due("mark(-1)", x.mark(-1), -1);
    Due.due("about(0)", x.about(0), 8);
    Due.due("of(7, 1)", x.of(7, 1), 1);
  }

  private static void feed() {
    Sentences.promise(3, "Twenty bytes come behind the tape, the highest of a first");
    // Twenty signs of which each is looked at: a FAULT is at the first that isn't a blank.
    for (int place = 0; place < 20; place++) {
      int[] words = Due.words(" ".repeat(place) + "!" + " ".repeat(19 - place), 0);
      MarkOffice x = new MarkOffice();
      x.feed(words[0], words[1], words[2], words[3], words[4]);
      x.text();
      Due.due("fault(1) of a sign at " + place, x.fault(1), place);
      Due.put(x, " \n  ");
      x.feed(words[0], words[1], words[2], words[3], words[4]);
      x.text();
      Due.due("fault(1) of a sign at " + place + " behind four", x.fault(1), 4 + place);
    }
    // Bytes above 127 are no blanks, and none of the others is harmed by them.
    MarkOffice x = new MarkOffice();
    x.feed(0x202020a0, 0x20202020, 0x20202020, 0x20202020, 0x20202020);
    x.text();
    Due.due("fault(1) of 160", x.fault(1), 3);
    x.feed(0x20202020, 0x8a202020, 0x20202020, 0x20202020, 0x20202020);
    x.text();
    Due.due("fault(1) of 138", x.fault(1), 4);
    Sentences.promise(3, ": how many it has");
    Due.due("feed", x.feed(0, 0, 0, 0, 0), 20);
    x.end(1);
    Due.due("feed", x.feed(-1, -1, -1, -1, -1), 21);
    Due.due("about(6)", x.about(6), 21);
  }

  private static void feedTooMuch() {
    Sentences.promise(3, "NONE, and none come, if there would be more than 300");
    MarkOffice x = new MarkOffice();
    int blanks = 0x20202020;
    for (int i = 1; i <= 15; i++) {
      Due.due("feed", x.feed(blanks, blanks, blanks, blanks, blanks), 20 * i);
    }
    Due.due("feed, 300 are there", x.feed(0, 0, 0, 0, 0), -1);
    Due.due("about(6)", x.about(6), 300);
    x.end(281);
    Due.due("feed, 301 would be", x.feed(0, 0, 0, 0, 0), -1);
    Due.due("about(6)", x.about(6), 281);
    x.end(280);
    Due.due("feed, 300", x.feed(blanks, blanks, blanks, blanks, blanks), 300);
    Due.due("feed, 320 would be", x.feed(0, 0, 0, 0, 0), -1);
    Due.due("text(), blanks alone", x.text(), 0);
    Due.due("fault(0)", x.fault(0), 0);
  }

  private static void end() {
    Sentences.promise(4, "The tape has its first n bytes alone: n");
    MarkOffice x = new MarkOffice();
    Due.put(x, "fee 17;fee 18;!");
    Due.due("end(15)", x.end(15), 15);
    Due.due("end(7)", x.end(7), 7);
    Due.due("about(6)", x.about(6), 7);
    Due.due("text()", x.text(), 0);
    x.mark(0);
    x.by(0);
    Due.due("of(0, 7)", x.of(0, 7), 17);
    cutTokens();
    Due.put(x, "fee 19;");
    Due.due("end(0)", x.end(0), 0);
    Due.due("text(), of nothing", x.text(), 1);
    x.by(1);
    Due.due("of(0, 7)", x.of(0, 7), 0);
    Sentences.promise(4, "NONE, and nothing is done, if it has not so many");
    Due.due("end(1) of none", x.end(1), -1);
    Due.put(x, "fee 20;");
    for (int n : new int[] {8, 20, 300, 301, Offices.HIGHEST}) {
      Due.due("end(" + n + ")", x.end(n), -1);
      Due.due("about(6)", x.about(6), 7);
    }
    Sentences.promise(4, ", or n is below 0");
    for (int n : new int[] {-1, -7, Offices.LOWEST}) {
      Due.due("end(" + n + ")", x.end(n), -1);
      Due.due("about(6)", x.about(6), 7);
    }
    Due.due("text()", x.text(), 2);
    Due.due("end(0) of none", x.end(0), 0);
  }

  /** What was cut off is no part of the last TOKEN. */
  private static void cutTokens() {
    String[] tapes = {"fees", "fee 1;fee", "year 61", "fee 1;;"};
    int[] ends = {3, 6, 6, 6};
    int[] faults = {3, -1, 6, -1};
    for (int i = 0; i < tapes.length; i++) {
      MarkOffice x = new MarkOffice();
      Due.put(x, tapes[i]);
      x.end(ends[i]);
      Due.due("text() of a part of " + tapes[i], x.text(), faults[i] < 0 ? 0 : -1);
      Due.due("fault(1) of a part of " + tapes[i], x.fault(1), faults[i]);
    }
  }

  private static void text() {
    Sentences.promise(5, "The tape");
    MarkOffice x = Offices.of(0);
    for (int text = 0; text < 4; text++) {
      Due.put(x, "fee 1" + text + ";");
      Due.due("text()", x.text(), text);
    }
    for (int text = 0; text < 4; text++) {
      x.by(text);
      Due.due("of(0, 7) by " + text, x.of(0, 7), 10 + text);
    }
    Sentences.promise(5, "(empty then) is a TEXT: its number");
    MarkOffice y = new MarkOffice();
    Due.due("text() of an empty tape", y.text(), 0);
    Due.put(y, "fee 1;");
    Due.due("text()", y.text(), 1);
    Due.due("about(6)", y.about(6), 0);
    Due.due("end(1)", y.end(1), -1);
    Due.due("feed", y.feed(0, 0, 0, 0, 0), 20);
  }

  private static void noText() {
    Sentences.promise(5, "NONE: it has a FAULT");
    MarkOffice x = Offices.under("fee 7;", 0);
    Due.due("text()", Due.told(x, "fee 1"), -1);
    Due.due("about(1)", x.about(1), 1);
    Due.due("about(6), it was read", x.about(6), 0);
    Due.due("of(0, 7), THE TEXT is as it was", x.of(0, 7), 7);
    Due.due("by(1)", x.by(1), false);
    nothingIsLeft();
    Due.due("text(), another", Due.told(x, "fee 2;"), 1);
    Sentences.promise(5, "or (the tape stays) there are 4");
    Due.due("text()", Due.told(x, "fee 3;"), 2);
    Due.due("text()", Due.told(x, "fee 4;"), 3);
    Due.due("text(), a fifth", Due.told(x, "fee 5;"), -1);
    Due.due("about(6)", x.about(6), 6);
    Due.due("about(1)", x.about(1), 4);
    // It is still what it was when there is room again.
    x.back();
    Due.due("text()", x.text(), 0);
    x.mark(0);
    x.by(0);
    Due.due("of(0, 7)", x.of(0, 7), 5);
  }

  /** Of a TEXT that has a FAULT nothing is in the next one. */
  private static void nothingIsLeft() {
    MarkOffice x = Offices.of(7);
    Due.told(x, "fee 50+1+1+1;wears 9;year 1;add 9 to 0;fee 1;");
    Due.due("text()", Due.told(x, "year 2;"), 0);
    x.by(0);
    Due.due("of(0, 7), no fee", x.of(0, 7), 3);
    Due.due("wears(0, 0), no wears", x.wears(0, 0), 3);
    Due.due("played(0)", x.played(0), -1);
    Due.due("YEAR, no other CLAUSE", x.is(0), 2);
    Due.due("about(3), no other CLAUSE", x.about(3), 2);
    Due.told(x, "wears 1+1+1+1+1+1+1+1;fee 1;wears");
    Due.due("text()", Due.told(x, "fee 20;wears 6;"), 1);
    x.by(1);
    Due.due("of(0, 7)", x.of(0, 7), 20);
    Due.due("wears(0, 0)", x.wears(0, 0), 6);
    Due.told(x, "wears 1;fee 1+1+1+1+1+1+1+1;fee");
    Due.due("text()", Due.told(x, "fee 21;wears 7;"), 2);
    x.by(2);
    Due.due("of(0, 7)", x.of(0, 7), 21);
    Due.due("wears(0, 0)", x.wears(0, 0), 7);
    for (int i = 0; i < 4; i++) {
      Due.due("text(), a long one", Due.told(x, "fee 1" + "+1".repeat(145) + ";!"), -1);
    }
    Due.due("text()", Due.told(x, "fee 1" + "+1".repeat(50) + "-30;"), 3);
    x.by(3);
    Due.due("of(0, 7)", x.of(0, 7), 21);
  }

  private static void fault() {
    Sentences.promise(6, "Of the latest text that was read: ");
    MarkOffice x = new MarkOffice();
    Due.told(x, "fee 1;!");
    Due.due("fault(0)", x.fault(0), 1);
    Due.told(x, "year 61;");
    Due.due("fault(0), the latest", x.fault(0), 2);
    Due.put(x, "fee");
    Due.due("fault(0), a tape that wasn't read", x.fault(0), 2);
    x.end(0);
    for (int i = 0; i < 4; i++) {
      Due.told(x, "fee 1;");
    }
    Due.told(x, "fee");
    Due.due("fault(0), a fifth isn't read", x.fault(0), 0);
    Due.due("fault(1), a fifth isn't read", x.fault(1), -1);
    Sentences.promise(6, "0 its FAULT (0 without), 1 its place (NONE without)");
    MarkOffice y = new MarkOffice();
    Due.told(y, "fee fee;");
    Due.due("fault(0)", y.fault(0), 1);
    Due.due("fault(1)", y.fault(1), 4);
    Due.told(y, "!");
    Due.due("fault(1), the first byte", y.fault(1), 0);
    Due.told(y, "");
    Due.due("fault(0), without", y.fault(0), 0);
    Due.due("fault(1), without", y.fault(1), -1);
    Sentences.promise(6, "NONE for others");
    Due.told(y, "draw stroke 20;");
    for (int what : new int[] {-1, 2, Offices.LOWEST, Offices.HIGHEST}) {
      Due.due("fault(" + what + ")", y.fault(what), -1);
    }
    Sentences.promise(6, ", and ahead of any");
    MarkOffice z = new MarkOffice();
    Due.put(z, "fee");
    for (int what = -1; what <= 2; what++) {
      Due.due("fault(" + what + ")", z.fault(what), -1);
    }
  }

  private static void by() {
    Sentences.promise(7, "THE TEXT (NONE: none): true");
    MarkOffice x = Offices.of(0);
    Due.due("by(-1) of none", x.by(-1), true);
    Due.told(x, "fee 5;");
    Due.told(x, "fee 6;");
    Due.due("by(1)", x.by(1), true);
    Due.due("of(0, 7)", x.of(0, 7), 6);
    Due.due("by(0)", x.by(0), true);
    Due.due("of(0, 7)", x.of(0, 7), 5);
    Due.due("by(-1)", x.by(-1), true);
    Due.due("of(0, 7)", x.of(0, 7), 0);
    Due.due("about(2)", x.about(2), -1);
    Sentences.promise(7, "False for others");
    MarkOffice y = Offices.of(0);
    Due.due("by(0) of none", y.by(0), false);
    Due.told(y, "fee 5;");
    y.by(0);
    for (int text : NO_TEXTS) {
      Due.due("by(" + text + ")", y.by(text), false);
      Due.due("about(2)", y.about(2), 0);
    }
    Due.due("about(3)", y.about(3), 0);
  }

  private static void add() {
    Sentences.promise(8, "ADDED: true");
    MarkOffice x = Offices.of(1, 0);
    Due.due("add(0, 19)", x.add(0, 19), true);
    Due.due("add(1, 0)", x.add(1, 0), true);
    Due.due("of(0, 0)", x.of(0, 0), 1 | 1 << 19);
    Due.due("of(1, 0)", x.of(1, 0), 1);
    Sentences.promise(8, "False, if it has it");
    int[] seen = Offices.seen(x);
    Due.due("add(0, 0), as registered", x.add(0, 0), false);
    Due.due("add(0, 19), added", x.add(0, 19), false);
    Offices.same("nothing is done", Offices.seen(x), seen);
    Sentences.promise(8, ", and for others");
    for (int mark : NO_MARKS) {
      Due.due("add(" + mark + ", 5)", x.add(mark, 5), false);
    }
    for (int stroke : NO_STROKES) {
      Due.due("add(1, " + stroke + ")", x.add(1, stroke), false);
    }
    Offices.same("nothing is done", Offices.seen(x), seen);
  }

  private static void rub() {
    Sentences.promise(9, "RUBBED: true");
    MarkOffice x = Offices.of(ALL, 1);
    Due.due("rub(0, 19)", x.rub(0, 19), true);
    Due.due("rub(1, 0)", x.rub(1, 0), true);
    Due.due("of(0, 0)", x.of(0, 0), ALL & ~(1 << 19));
    Due.due("of(1, 0)", x.of(1, 0), 0);
    Sentences.promise(9, "False, if it hasn't it");
    int[] seen = Offices.seen(x);
    Due.due("rub(0, 19)", x.rub(0, 19), false);
    Due.due("rub(1, 0)", x.rub(1, 0), false);
    Offices.same("nothing is done", Offices.seen(x), seen);
    Sentences.promise(9, ", and for others");
    for (int mark : NO_MARKS) {
      Due.due("rub(" + mark + ", 5)", x.rub(mark, 5), false);
    }
    for (int stroke : NO_STROKES) {
      Due.due("rub(0, " + stroke + ")", x.rub(0, stroke), false);
    }
    Offices.same("nothing is done", Offices.seen(x), seen);
  }

  private static void renew() {
    Sentences.promise(10, "RENEWED: how many strokes are other");
    MarkOffice x = Offices.of(7, 0);
    x.rub(0, 0);
    Due.due("renew(0), one is other", x.renew(0), 1);
    x.rub(0, 0);
    x.rub(0, 1);
    x.add(0, 19);
    Due.due("renew(0), three are other", x.renew(0), 3);
    Due.due("of(0, 0)", x.of(0, 0), 7);
    for (int stroke = 0; stroke < 20; stroke++) {
      x.add(1, stroke);
    }
    Due.due("renew(1), all are other", x.renew(1), 20);
    Sentences.promise(10, "NONE, if none is");
    int[] seen = Offices.seen(x);
    Due.due("renew(0)", x.renew(0), -1);
    Due.due("renew(1)", x.renew(1), -1);
    // Added and rubbed again: none is other.
    MarkOffice y = Offices.of(7);
    y.add(0, 5);
    y.rub(0, 5);
    Due.due("renew(0)", y.renew(0), -1);
    Due.due("about(3)", y.about(3), 2);
    Sentences.promise(10, ", and for others");
    for (int mark : NO_MARKS) {
      Due.due("renew(" + mark + ")", x.renew(mark), -1);
    }
    Offices.same("nothing is done", Offices.seen(x), seen);
  }

  private static void year() {
    Sentences.promise(11, "YEARS pass (1 .. 60): how many strokes wear off in them");
    MarkOffice x = Offices.under("wears 10;", ALL, ALL);
    Due.due("year(1), one each", x.year(1), 2);
    Due.due("YEAR", x.is(0), 1);
    int worn = x.year(60);
    Due.due("year(60)", worn, 38 - x.of(0, 2) - x.of(1, 2));
    Due.due("YEAR", x.is(0), 61);
    Due.due("year(1) of no strokes", Offices.of(0).year(1), 0);
    Due.due("year(60) without marks", Offices.of().year(60), 0);
    Sentences.promise(11, "NONE for others");
    MarkOffice y = Offices.of(ALL);
    y.year(1);
    int[] seen = Offices.seen(y);
    for (int n : new int[] {0, -1, 61, Offices.LOWEST, Offices.HIGHEST}) {
      Due.due("year(" + n + ")", y.year(n), -1);
    }
    Offices.same("nothing is done", Offices.seen(y), seen);
  }

  private static void noYear() {
    Sentences.promise(11, ", or beyond 9999 (nothing is done then)");
    MarkOffice x = Offices.of(0);
    Offices.pass(x, 9940);
    int[] seen = Offices.seen(x);
    Due.due("year(60), to 10000", x.year(60), -1);
    Offices.same("nothing is done", Offices.seen(x), seen);
    Due.due("year(59), to 9999", x.year(59), 0);
    Due.due("YEAR", x.is(0), 9999);
    Due.due("year(1)", x.year(1), -1);
    Due.due("year(60)", x.year(60), -1);
    Due.due("YEAR", x.is(0), 9999);
    Due.due("undo()", x.undo(), 29);
    Due.due("year(2)", x.year(2), -1);
    Due.due("year(1)", x.year(1), 0);
  }

  private static void played() {
    Sentences.promise(12, "PLAYED by a TEXT: NONE: all is done");
    MarkOffice x = Offices.under("draw bar 0;add 19 to 0;", 0);
    Due.due("played(0)", x.played(0), -1);
    Due.due("of(0, 0)", x.of(0, 0), 1 << 19);
    Due.due("of(1, 0)", x.of(1, 0), 3);
    Sentences.promise(12, "; else the number of the CLAUSE that can't be");
    Due.due("played(0)", x.played(0), 1);
    Due.due("about(0)", x.about(0), 3);
    MarkOffice last = Offices.under("year 1;".repeat(23) + "renew 0;", 0);
    Due.due("played(0), the last of 24", last.played(0), 23);
    Sentences.promise(12, "-2 for others");
    MarkOffice y = new MarkOffice();
    Due.due("played(0) of none", y.played(0), -2);
    Due.told(y, "year 1;");
    for (int text : NO_TEXTS) {
      Due.due("played(" + text + ")", y.played(text), -2);
    }
    Due.due("played(-1)", y.played(-1), -2);
    Due.due("YEAR", y.is(0), 0);
  }

  private static void undo() {
    Sentences.promise(14, "The latest STEP is taken back: how many can be yet");
    MarkOffice x = Offices.of(0);
    x.add(0, 3);
    x.add(0, 4);
    x.add(0, 5);
    Due.due("undo()", x.undo(), 2);
    Due.due("of(0, 0)", x.of(0, 0), 3 << 3);
    Due.due("undo()", x.undo(), 1);
    x.add(0, 9);
    Due.due("about(3)", x.about(3), 2);
    Due.due("undo()", x.undo(), 1);
    Due.due("undo()", x.undo(), 0);
    Due.due("of(0, 0)", x.of(0, 0), 0);
    Sentences.promise(14, "NONE: there is none");
    Due.due("undo()", x.undo(), -1);
    Due.due("undo() again", x.undo(), -1);
    Due.due("undo() of a new object", Offices.of().undo(), -1);
    Due.due("undo() of a mark", Offices.of(1).undo(), -1);
    Due.due("about(3)", x.about(3), 0);
    Due.due("add(0, 1)", x.add(0, 1), true);
    Due.due("undo()", x.undo(), 0);
    Due.due("undo()", x.undo(), -1);
  }

  private static void of() {
    Sentences.promise(15, "Of a MARK: 0 its strokes now (bits), 1 as registered (bits), 2 how many now, "
        + "3 ENDS, 4 PIECES, 5 HOLES, 6 CROSSINGS, 7 fee now");
    // A triangle 0-1-3, 7-8 and 0-4, which crosses 1-3.
    MarkOffice x = Offices.under("fee 50;", 1 | 1 << 6 | 1 << 16 | 1 << 5, 0);
    x.add(0, 12);
    int now = 1 | 1 << 6 | 1 << 16 | 1 << 5 | 1 << 12;
    int[] of = {now, now & ~(1 << 12), 5, 4, 2, 1, 1, 50};
    for (int what = 0; what < 8; what++) {
      Due.due("of(0, " + what + ")", x.of(0, what), of[what]);
    }
    Sentences.promise(15, "NONE for others");
    for (int what : new int[] {-1, 8, Offices.LOWEST, Offices.HIGHEST}) {
      Due.due("of(0, " + what + ")", x.of(0, what), -1);
    }
    for (int mark : NO_MARKS) {
      for (int what = 0; what < 8; what++) {
        Due.due("of(" + mark + ", " + what + ")", x.of(mark, what), -1);
      }
    }
  }

  private static void wears() {
    Sentences.promise(16, "wears now");
    MarkOffice x = Offices.under("wears strokes;", 7, 0);
    Due.due("wears(0, 0)", x.wears(0, 0), 3);
    Due.due("wears(0, 19), whether it is in it or not", x.wears(0, 19), 3);
    x.add(0, 9);
    Due.due("wears(0, 0)", x.wears(0, 0), 4);
    Due.due("wears(1, 0)", x.wears(1, 0), 0);
    Sentences.promise(16, "NONE for others (0 .. 19)");
    for (int mark : NO_MARKS) {
      Due.due("wears(" + mark + ", 0)", x.wears(mark, 0), -1);
    }
    for (int stroke : NO_STROKES) {
      Due.due("wears(0, " + stroke + ")", x.wears(0, stroke), -1);
    }
  }

  private static void is() {
    Sentences.promise(17, "0 YEAR, 1 X, 2 FUND, 3 MARKS that are other than registered (bits)");
    MarkOffice x = Offices.under("fee 7;", 0, 0, 0, 0, 0, 0, 0, 0);
    x.year(2);
    x.add(7, 0);
    x.add(0, 0);
    x.add(3, 0);
    x.rub(3, 0);
    int drawn = 431;
    for (int i = 0; i < 16; i++) {
      drawn = Offices.after(drawn);
    }
    int[] is = {2, drawn, 2 * 8 * 7, 1 | 128};
    for (int what = 0; what < 4; what++) {
      Due.due("is(" + what + ")", x.is(what), is[what]);
    }
    Sentences.promise(17, "-2 for others");
    for (int what : new int[] {-1, 4, Offices.LOWEST, Offices.HIGHEST}) {
      Due.due("is(" + what + ")", x.is(what), -2);
    }
  }

  private static void book() {
    Sentences.promise(18, "BOOK: how many (i NONE)");
    MarkOffice x = Offices.under("wears 10;", ALL & ~3, ALL & ~3);
    Due.due("book(-1, 0) of none", x.book(-1, 0), 0);
    x.add(1, 0);
    Due.due("book(-1, 0)", x.book(-1, 0), 1);
    Due.due("book(-1, 3)", x.book(-1, 3), 1);
    Sentences.promise(18, "; the i-th, from the eldest on: 0 YEAR, 1 MARK, "
        + "2 what (0 added, 1 rubbed, 2 renewed, 3 worn off), 3 the stroke (NONE: renewed)");
    x.rub(1, 19);
    x.renew(1);
    x.year(1);
    x.add(0, 1);
    Due.due("book(-1, 0)", x.book(-1, 0), 6);
    Offices.line(x, 0, 0, 1, 0, 0);
    Offices.line(x, 1, 0, 1, 1, 19);
    Offices.line(x, 2, 0, 1, 2, -1);
    // 431: 11, then 7 of 10; 29024: 4 of 20, then another draw.
    Offices.line(x, 3, 0, 0, 3, 11);
    Offices.line(x, 4, 0, 1, 3, 4);
    Offices.line(x, 5, 1, 0, 0, 1);
    MarkOffice last = Offices.of(0, 0, 0, 0, 0, 0, 0, 0);
    Offices.pass(last, 9999);
    last.add(7, 19);
    last.rub(7, 19);
    Offices.line(last, 0, 9999, 7, 0, 19);
    Offices.line(last, 1, 9999, 7, 1, 19);
  }

  private static void noLine() {
    Sentences.promise(18, "-2 if there is none such");
    MarkOffice x = Offices.of(0);
    Due.due("book(0, 0) of none", x.book(0, 0), -2);
    x.add(0, 0);
    Due.due("book(0, 0)", x.book(0, 0), 0);
    Due.due("book(1, 0)", x.book(1, 0), -2);
    for (int i = 0; i < 30; i++) {
      x.add(0, i);
      x.rub(0, i);
    }
    Due.due("book(24, 0)", x.book(24, 0), 0);
    Due.due("book(25, 0)", x.book(25, 0), -2);
    Sentences.promise(18, ", and for others");
    for (int what : new int[] {-1, 4, Offices.LOWEST, Offices.HIGHEST}) {
      Due.due("book(0, " + what + ")", x.book(0, what), -2);
    }
    for (int i : new int[] {-2, 26, Offices.LOWEST, Offices.HIGHEST}) {
      Due.due("book(" + i + ", 0)", x.book(i, 0), -2);
    }
  }
}
