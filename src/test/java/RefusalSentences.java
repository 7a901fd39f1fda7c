import java.util.ArrayList;
import java.util.List;
import java.util.function.Consumer;

/** Refusals: of two that fit the first, and that a refused call has changed nothing; what is kept; what is counted (promises 24 to 26). */
public final class RefusalSentences {
  private static final int NONE = Talk.NONE, UNKNOWN = Talk.UNKNOWN, OUTSIDE = Talk.OUTSIDE, NOT = Talk.NOT, FULL = Talk.FULL;
  private static final int LOWEST = Integer.MIN_VALUE, HIGHEST = Integer.MAX_VALUE;

  public static void main(String[] args) {
    Sentences.sentence("UNKNOWN -1000000002 (no such POLYNOMIAL, BOX, ENTRY)", RefusalSentences::unknown);
    Sentences.sentence("OUTSIDE -1000000003 (another number is not as told; a PLACE, too)", RefusalSentences::outside);
    Sentences.sentence("NOT -1000000004 (not now: as told)", RefusalSentences::not);
    Sentences.sentence("FULL -1000000005", RefusalSentences::full);
    Sentences.sentence("NONE is -1000000001.", RefusalSentences::none);
    Sentences.sentence("the first of these that fits", RefusalSentences::firstThatFits);
    Sentences.sentence("Refused, and nothing changes", RefusalSentences::nothingChanges);
    Sentences.sentence("POLYNOMIALS, LEAST, THE SEARCH are kept (k 0, 1): how many ENTRIES. OUTSIDE.", RefusalSentences::keep);
    Sentences.sentence("They are as they were kept: how many ENTRIES.", RefusalSentences::back);
    Sentences.sentence("OUTSIDE; NOT: nothing was kept.", RefusalSentences::backRefused);
    Sentences.sentence("OPEN ones (what 0), SOLVED ones (1), DOUBTFUL ones (2), ENTRIES (3)", RefusalSentences::countBoxes);
    Sentences.sentence("of them those with VERDICT 0 .. 5 (4 .. 9)", RefusalSentences::countVerdicts);
    Sentences.sentence("TERMS of POLYNOMIAL 0, 1 (10, 11), LEAST (12), letters of THE TEXT (13)", RefusalSentences::countOthers);
    Sentences.sentence("WIDTHS of x of all OPEN ones together (14). OUTSIDE.", RefusalSentences::countWidths);
    Sentences.end();
  }

  // ---- which refusal

  private static void unknown() {
    for (int wrong : new int[] {-1, 2, 3, LOWEST, HIGHEST, 256}) {
      Talk x = Talk.busy().due(UNKNOWN, "put", wrong, 0, 0, 1).due(UNKNOWN, "term", wrong, 0, 0).due(UNKNOWN, "sign", wrong, 0, 0);
      x.due(UNKNOWN, "value", wrong, 0).due(UNKNOWN, "slope", wrong, 0, 0).due(UNKNOWN, "solved", wrong, 0).due(UNKNOWN, "doubtful", wrong, 0);
    }
    Talk x = Talk.busy().due(64, "solved", 0, 0).due(UNKNOWN, "solved", 1, 0).due(128, "doubtful", 0, 0).due(UNKNOWN, "doubtful", 1, 0);
    x.due(128, "entry", 7, 0).due(UNKNOWN, "entry", 8, 0).due(UNKNOWN, "entry", -1, 0).due(UNKNOWN, "entry", 8, 4).due(UNKNOWN, "entry", 8, 5);
  }

  private static void outside() {
    Talk x = Talk.busy().due(OUTSIDE, "write", 256).due(OUTSIDE, "put", 0, 5, 0, 1).due(OUTSIDE, "put", 0, 0, 0, 21).due(OUTSIDE, "term", 0, 2, 3);
    x.due(OUTSIDE, "sign", 0, 513, 0).due(OUTSIDE, "hold", 0, 513, 0, 0).due(OUTSIDE, "value", 0, 2).due(OUTSIDE, "slope", 0, 2, 0).due(OUTSIDE, "slope", 0, 0, 2);
    x.due(OUTSIDE, "fence", 6).due(OUTSIDE, "begin", 0, 513, 0, 1).due(OUTSIDE, "least", 65).due(OUTSIDE, "steps", 21).due(OUTSIDE, "first", 4);
    x.due(OUTSIDE, "solved", 0, 4).due(OUTSIDE, "doubtful", 0, 4).due(OUTSIDE, "entry", 0, 6).due(OUTSIDE, "find", 513, 0).due(OUTSIDE, "keep", 2);
    x.due(OUTSIDE, "back", 2).due(OUTSIDE, "count", 15);
    x.due(OUTSIDE, "write", -1).due(OUTSIDE, "put", 0, 0, -1, 1).due(OUTSIDE, "put", 0, 0, 0, -21).due(OUTSIDE, "term", 0, -1, 3);
    x.due(OUTSIDE, "sign", 0, 0, -513).due(OUTSIDE, "hold", 0, 0, -513, 0).due(OUTSIDE, "value", 0, -1).due(OUTSIDE, "slope", 0, -1, 0).due(OUTSIDE, "slope", 0, 0, -1);
    x.due(OUTSIDE, "fence", -1).due(OUTSIDE, "begin", 0, 1, -513, 1).due(OUTSIDE, "least", 0).due(OUTSIDE, "steps", 0).due(OUTSIDE, "first", -1);
    x.due(OUTSIDE, "solved", 0, -1).due(OUTSIDE, "doubtful", 0, -1).due(OUTSIDE, "entry", 0, -1).due(OUTSIDE, "find", 0, -513).due(OUTSIDE, "keep", -1);
    x.due(OUTSIDE, "back", -1).due(OUTSIDE, "count", -1);
  }

  /** Each that answers NOT does not any more as soon as it can be done. */
  private static void not() {
    Talk x = new Talk().due(NOT, "tell").due(NOT, "value", 0, 0).due(NOT, "slope", 1, 1, 1).due(NOT, "fence", 0).due(NOT, "fence", 5).due(NOT, "verdict");
    x.due(NOT, "step").due(NOT, "first", 0).due(NOT, "first", 3).due(NOT, "back", 0).due(NOT, "back", 1);
    x.say("all").due(1, "tell").then("hold", 0, 0, 0, 0).due(0, "value", 0, 0).due(0, "slope", 1, 1, 1).due(NONE, "fence", 0).due(0, "fence", 5).due(5, "verdict");
    x.then("begin", 0, 1, 2, 3).due(0, "first", 0).due(3, "first", 3).due(5, "step").due(NOT, "step").due(NOT, "first", 0);
    x.due(1, "keep", 0).due(1, "back", 0).due(NOT, "back", 1).due(1, "keep", 1).due(1, "back", 1).due(NOT, "tell");
    // a box that is open is not held, one that is held is not open
    new Talk().then("begin", 0, 1, 0, 1).due(NOT, "verdict").due(NOT, "value", 0, 0);
    new Talk().then("hold", 0, 1, 0, 1).due(NOT, "step").due(NOT, "first", 0).due(0, "steps", 1);
    // steps are none then: that is no refusal
    new Talk().due(0, "steps", 1).due(0, "steps", 20).due(NONE, "broken").due(0, "find", 0, 0);
  }

  private static void full() {
    new Talk().say("z".repeat(199)).due(200, "write", 'z').due(FULL, "write", 'z').due(200, "erase").due(1, "write", 'z');
    Talk x = new Talk();
    openFull(x);
    x.due(64, "count", 0).due(63, "count", 3).due(FULL, "step").then("put", 0, 0, 0, 1).due(0, "step").due(63, "count", 0);
    Talk y = new Talk();
    entriesFull(y);
    y.due(FULL, "step").due(FULL, "step").then("begin", 0, 1, 0, 1).due(5, "step");
  }

  private static void none() {
    new Talk().say("all").due(NONE, "fault").due(NONE, "fault").due(3, "erase").due(0, "fault");
    Talk x = new Talk().then("hold", 0, 1, 0, 1);
    for (int what = 0; what < 4; what++) x.due(NONE, "fence", what);
    x.due(0, "fence", 4).due(0, "fence", 5).due(NONE, "broken").then("begin", 0, 1, 0, 1).due(5, "step").due(NONE, "broken");
    x.then("put", 0, 0, 0, 1).due(0, "broken");
  }

  /** 200 entries and nothing open: 63 are parted, one made smaller, 62 go, 36 are parted, 38 go. */
  private static Talk with200EntriesAndNoneOpen() {
    Talk x = Talk.told("least 1;box 0 512 0 512").due(20, "steps", 20).due(20, "steps", 20).due(20, "steps", 20).due(3, "steps", 3);
    x.say("f 1 1 0;g 1 0 1").due(2, "tell").due(4, "step").say("f 0 1 0;g 0 0 1;f 1 0 0").due(3, "tell");
    x.due(20, "steps", 20).due(20, "steps", 20).due(20, "steps", 20).due(2, "steps", 2).then("put", 0, 0, 0, 0).due(20, "steps", 20).due(16, "steps", 16);
    return x.then("put", 0, 0, 0, 1).due(20, "steps", 20).due(18, "steps", 20).due(200, "count", 3).due(0, "count", 0);
  }

  private static void firstThatFits() {
    // UNKNOWN and OUTSIDE
    Talk x = Talk.busy().due(UNKNOWN, "put", 2, 5, 5, 21).due(UNKNOWN, "put", 2, 0, 0, 21).due(UNKNOWN, "put", -1, -1, 0, 0).due(UNKNOWN, "term", 2, 5, 5);
    x.due(UNKNOWN, "term", -1, -1, 0).due(UNKNOWN, "sign", 2, 513, 0).due(UNKNOWN, "sign", -1, 0, -513).due(UNKNOWN, "value", 2, 2).due(UNKNOWN, "value", -1, -1);
    x.due(UNKNOWN, "slope", 2, 2, 0).due(UNKNOWN, "slope", 2, 0, 2).due(UNKNOWN, "slope", -1, -1, -1).due(UNKNOWN, "solved", 1, 4).due(UNKNOWN, "solved", -1, -1);
    x.due(UNKNOWN, "doubtful", 1, 4).due(UNKNOWN, "doubtful", -1, -1).due(UNKNOWN, "entry", 8, 6).due(UNKNOWN, "entry", -1, -1);
    // UNKNOWN and NOT, OUTSIDE and NOT, all three: none is held
    Talk y = new Talk().due(UNKNOWN, "value", 2, 0).due(UNKNOWN, "slope", 2, 0, 0).due(OUTSIDE, "value", 0, 2).due(OUTSIDE, "slope", 0, 2, 0).due(OUTSIDE, "slope", 0, 0, 2);
    y.due(OUTSIDE, "fence", 6).due(OUTSIDE, "fence", -1).due(UNKNOWN, "value", 2, 2).due(UNKNOWN, "slope", -1, 2, 2);
    // nothing is open, nothing was kept
    y.due(OUTSIDE, "first", 4).due(OUTSIDE, "first", -1).due(OUTSIDE, "back", 2).due(OUTSIDE, "back", -1).due(OUTSIDE, "steps", 0).due(OUTSIDE, "steps", 21);
    // no box there is, and no such end of it
    y.due(UNKNOWN, "solved", 0, 4).due(UNKNOWN, "doubtful", 0, 4).due(UNKNOWN, "entry", 0, 6);
    // OUTSIDE and FULL
    new Talk().say("z".repeat(200)).due(OUTSIDE, "write", 256).due(OUTSIDE, "write", -1).due(FULL, "write", 'z');
    // NOT and FULL
    with200EntriesAndNoneOpen().due(NOT, "step").due(0, "steps", 20).due(200, "count", 3);
  }

  // ---- nothing changes

  private static final int[][] POINTS = {{0, 0}, {64, 64}, {128, 0}, {150, 30}, {192, 64}, {256, 64}, {300, 30}, {512, 128}, {-512, -512}};

  private static void askSearch(Talk x, List<Integer> told) {
    for (int what = 0; what < 15; what++) told.add(x.ask("count", what));
    for (int what = 0; what < 4; what++) {
      told.add(x.ask("first", what));
      for (int box = 0; box < 3; box++) {
        told.add(x.ask("solved", box, what));
        told.add(x.ask("doubtful", box, what));
      }
    }
    for (int[] point : POINTS) told.add(x.ask("find", point[0], point[1]));
    told.add(x.ask("broken"));
  }

  private static void askEntries(Talk x, List<Integer> told) {
    int entries = x.ask("count", 3);
    for (int k = 0; k < 10; k++) {
      for (int what = 0; what < 6; what++) {
        told.add(x.ask("entry", k, what));
        told.add(x.ask("entry", entries - 1 - k, what));
      }
    }
  }

  private static void askPolynomials(Talk x, List<Integer> told) {
    for (int p = 0; p < 2; p++) for (int i = 0; i <= 4; i++) for (int j = 0; i + j <= 4; j++) told.add(x.ask("term", p, i, j));
    told.add(x.ask("count", 12));
  }

  private static void askHeld(Talk x, List<Integer> told) {
    told.add(x.ask("verdict"));
    for (int what = 0; what < 6; what++) told.add(x.ask("fence", what));
    // by x and y themselves the ends of what is held are told
    x.then("put", 0, 1, 0, 1).then("put", 0, 2, 0, 0).then("put", 0, 0, 0, 0).then("put", 1, 0, 1, 1);
    for (int what = 0; what < 2; what++) {
      told.add(x.ask("value", 0, what));
      told.add(x.ask("value", 1, what));
    }
  }

  private static void askText(Talk x, List<Integer> told) {
    told.add(x.ask("fault"));
    told.add(x.ask("count", 13));
    told.add(x.ask("tell"));
    askPolynomials(x, told);
    told.add(x.ask("erase"));
  }

  private static void askKept(Talk x, List<Integer> told, int k) {
    told.add(x.ask("back", k));
    askPolynomials(x, told);
    askSearch(x, told);
    for (int n = 0; n < 5; n++) told.add(x.ask("step"));
    askSearch(x, told);
  }

  private static final List<Askings> ASKINGS = List.of(RefusalSentences::askSearch, RefusalSentences::askEntries, RefusalSentences::askPolynomials,
      RefusalSentences::askHeld, RefusalSentences::askText, (x, told) -> askKept(x, told, 0), (x, told) -> askKept(x, told, 1));

  private interface Askings {
    void ask(Talk x, List<Integer> told);
  }

  /** Asks an object all there is to ask, and another that was refused something before: new ones each time, for one has 512 calls. */
  private static void unchangedBy(Consumer<Talk> before, int refusal, String name, int... args) {
    for (Askings askings : ASKINGS) {
      List<Integer> due = new ArrayList<>(), told = new ArrayList<>();
      Talk x = new Talk(), y = new Talk();
      before.accept(x);
      before.accept(y);
      y.due(refusal, name, args);
      askings.ask(x, due);
      askings.ask(y, told);
      Sentences.must("all is as before " + name + " was refused with " + refusal, due.equals(told));
    }
  }

  private static void busy(Talk x) {
    x.then("begin", 0, 512, 0, 128).then("steps", 2);
    x.say("f 1 1 0;f -1 0 0;g 1 0 1;g -1 0 0").then("tell").then("steps", 2).then("keep", 0);
    x.say("f 0 1 0;f 0 0 0;g 0 0 1;g 0 0 0;least 64").then("tell").then("steps", 4);
    x.then("put", 0, 2, 0, 1).then("least", 7).then("keep", 1).then("put", 1, 0, 1, -2).then("hold", 1, 2, 3, 7);
    x.say("g 5 1 1");
  }

  private static void bare(Talk x) { x.then("put", 0, 1, 0, 3).then("keep", 0); }

  private static void openFull(Talk x) {
    x.then("begin", -512, 512, -512, 512).then("steps", 20).then("steps", 20).then("steps", 20).then("steps", 20).then("hold", 1, 2, 3, 4);
  }

  private static void entriesFull(Talk x) {
    openFull(x);
    for (int round = 0; round < 2; round++) {
      x.then("put", 0, 0, 0, 1).then("steps", 20).then("steps", 20).then("put", 0, 0, 0, 0).then("steps", 20).then("steps", 20);
    }
    x.due(200, "count", 3).then("least", 3);
  }

  private static void textFull(Talk x) { x.say("g 5 1 1;" + "all;".repeat(20) + "least 9" + " ".repeat(105)); }

  private static void faultyText(Talk x) {
    busy(x);
    x.say("all;f 9 0 0;g 9 0 0;least 9;box 0 9 0 9;");
  }

  private static void nothingChanges() {
    unchangedBy(RefusalSentences::busy, OUTSIDE, "write", 256);
    unchangedBy(RefusalSentences::busy, OUTSIDE, "write", -1);
    unchangedBy(RefusalSentences::textFull, FULL, "write", 'x');
    unchangedBy(RefusalSentences::faultyText, NOT, "tell");
    unchangedBy(RefusalSentences::bare, NOT, "tell");
    unchangedBy(RefusalSentences::busy, UNKNOWN, "put", 2, 0, 0, 9);
    unchangedBy(RefusalSentences::busy, UNKNOWN, "put", -1, 0, 0, 9);
    unchangedBy(RefusalSentences::busy, OUTSIDE, "put", 0, 0, 5, 9);
    unchangedBy(RefusalSentences::busy, OUTSIDE, "put", 0, 3, 2, 9);
    unchangedBy(RefusalSentences::busy, OUTSIDE, "put", 1, 0, 1, 21);
    unchangedBy(RefusalSentences::busy, OUTSIDE, "put", 1, 0, 1, -21);
    unchangedBy(RefusalSentences::busy, OUTSIDE, "hold", 5, 4, 0, 1);
    unchangedBy(RefusalSentences::busy, OUTSIDE, "hold", 0, 1, 5, 4);
    unchangedBy(RefusalSentences::busy, OUTSIDE, "hold", 0, 1, 0, 513);
    unchangedBy(RefusalSentences::bare, OUTSIDE, "hold", 5, 4, 0, 1);
    unchangedBy(RefusalSentences::busy, OUTSIDE, "begin", 5, 5, 0, 1);
    unchangedBy(RefusalSentences::busy, OUTSIDE, "begin", 0, 1, 5, 5);
    unchangedBy(RefusalSentences::busy, OUTSIDE, "begin", -513, 1, 5, 6);
    unchangedBy(RefusalSentences::busy, OUTSIDE, "least", 0);
    unchangedBy(RefusalSentences::busy, OUTSIDE, "least", 65);
    unchangedBy(RefusalSentences::bare, NOT, "step");
    unchangedBy(RefusalSentences::openFull, FULL, "step");
    unchangedBy(RefusalSentences::entriesFull, FULL, "step");
    unchangedBy(RefusalSentences::openFull, 0, "steps", 20);
    unchangedBy(RefusalSentences::entriesFull, 0, "steps", 20);
    unchangedBy(RefusalSentences::busy, OUTSIDE, "steps", 0);
    unchangedBy(RefusalSentences::busy, OUTSIDE, "steps", 21);
    unchangedBy(RefusalSentences::busy, OUTSIDE, "keep", 2);
    unchangedBy(RefusalSentences::busy, OUTSIDE, "keep", -1);
    unchangedBy(RefusalSentences::bare, OUTSIDE, "keep", 2);
    unchangedBy(RefusalSentences::busy, OUTSIDE, "back", 2);
    unchangedBy(RefusalSentences::busy, OUTSIDE, "back", -1);
    unchangedBy(RefusalSentences::bare, NOT, "back", 1);
    questionsChangeNothing();
  }

  /** Also calls that only ask, refused or not. */
  private static void questionsChangeNothing() {
    unchangedBy(RefusalSentences::busy, 7, "count", 13);
    unchangedBy(RefusalSentences::busy, NONE, "fault");
    unchangedBy(RefusalSentences::busy, OUTSIDE, "term", 0, 5, 0);
    unchangedBy(RefusalSentences::busy, OUTSIDE, "sign", 0, 513, 0);
    unchangedBy(RefusalSentences::busy, 1, "sign", 0, 512, 0);
    unchangedBy(RefusalSentences::bare, NOT, "value", 0, 0);
    unchangedBy(RefusalSentences::bare, NOT, "slope", 0, 0, 0);
    unchangedBy(RefusalSentences::bare, NOT, "fence", 0);
    unchangedBy(RefusalSentences::bare, NOT, "verdict");
    unchangedBy(RefusalSentences::busy, 1, "verdict");
    unchangedBy(RefusalSentences::busy, OUTSIDE, "first", 4);
    unchangedBy(RefusalSentences::bare, NOT, "first", 0);
    unchangedBy(RefusalSentences::busy, UNKNOWN, "solved", 1, 0);
    unchangedBy(RefusalSentences::busy, UNKNOWN, "doubtful", 1, 0);
    unchangedBy(RefusalSentences::busy, UNKNOWN, "entry", 8, 5);
    unchangedBy(RefusalSentences::busy, 5, "entry", 3, 5);
    unchangedBy(RefusalSentences::busy, 3, "broken");
    unchangedBy(RefusalSentences::busy, OUTSIDE, "find", 0, 513);
    unchangedBy(RefusalSentences::busy, OUTSIDE, "count", 15);
  }

  // ---- what is kept

  private static void keep() {
    Talk x = new Talk().due(0, "keep", 0).due(0, "keep", 1).due(OUTSIDE, "keep", 2).due(OUTSIDE, "keep", -1).due(OUTSIDE, "keep", HIGHEST).due(OUTSIDE, "keep", LOWEST);
    x.then("begin", 0, 8, 0, 4).due(3, "steps", 20).due(3, "keep", 1).due(0, "back", 0).due(3, "back", 1);
    // all of it: polynomials, LEAST, what is open, solved, doubtful, the entries with their verdicts
    Talk y = Talk.busy().due(8, "keep", 0).say("all").due(1, "tell").due(8, "back", 0);
    y.due(1, "term", 0, 2, 0).due(-2, "term", 1, 0, 1).due(1, "count", 10).due(1, "count", 11).due(7, "count", 12);
    y.due(3, "count", 0).dueBox("first", 128, 192, 64, 128).dueBox("solved", 0, 64, 64, 64, 64).dueBox("doubtful", 0, 128, 192, 0, 64);
    int[] verdicts = {5, 5, 0, 3, 5, 5, 5, 5};
    for (int k = 0; k < 8; k++) y.due(verdicts[k], "entry", k, 4);
    y.dueBox("entry", 0, 0, 512, 0, 128).dueBox("entry", 7, 128, 192, 0, 64).due(64 + 64 + 64, "count", 14);
    // each has its own; a second keep is for what was kept
    Talk z = new Talk().then("put", 0, 0, 0, 1).then("keep", 0).then("put", 0, 0, 0, 2).then("keep", 1).then("put", 0, 0, 0, 3);
    z.then("back", 0).due(1, "term", 0, 0, 0).then("back", 1).due(2, "term", 0, 0, 0).then("put", 0, 0, 0, 4).then("keep", 1).then("back", 0).due(1, "term", 0, 0, 0);
    z.then("back", 1).due(4, "term", 0, 0, 0);
    // keep changes nothing of what is, nor do later calls change what is kept
    Talk w = Talk.busy().then("keep", 0).due(8, "count", 3).due(3, "count", 0).due(1, "count", 11).due(7, "count", 12);
    w.then("put", 0, 2, 0, 9).then("least", 9).due(3, "steps", 3).then("put", 0, 0, 0, 9).then("begin", 0, 1, 0, 1).due(0, "step");
    w.due(8, "back", 0).due(1, "term", 0, 2, 0).due(0, "term", 0, 0, 0).due(5, "entry", 0, 4).due(1, "count", 4).due(6, "count", 9).due(7, "count", 12).dueBox("entry", 7, 128, 192, 0, 64).dueBox("first", 128, 192, 64, 128).due(1, "count", 1).due(1, "count", 2);
    // a shorter one for a longer one
    Talk v = Talk.busy().then("keep", 1).then("begin", 0, 9, 0, 9).due(0, "keep", 1).then("step").due(0, "back", 1).due(1, "count", 0).due(0, "count", 1).due(0, "count", 2);
    v.dueBox("first", 0, 9, 0, 9).due(UNKNOWN, "entry", 0, 0);
  }

  /** 23 entries: by 15 there are 16 open ones, 64 wide and high, of which 3 are solved, then 5 doubtful; 8 stay open. */
  private static Talk longSearch(Talk x, int low) {
    x.say("all").then("tell").then("begin", low, low + 256, low, low + 256).due(15, "steps", 15).then("put", 0, 1, 0, 2).then("put", 1, 0, 1, 2);
    for (int k = 0; k < 3; k++) {
      x.then("put", 0, 0, 0, -(x.ask("first", 0) + 32) / 32).then("put", 1, 0, 0, -(x.ask("first", 2) + 32) / 32).due(3, "step");
    }
    return x.say("f 0 1 0;f 0 0 0;g 0 0 1;g 0 0 0;least 64").then("tell").due(5, "steps", 5).due(8, "count", 0);
  }

  /** Every box of it, also where another search has stood in the meantime. */
  private static void dueLike(Talk once, Talk x) {
    for (int what = 0; what < 15; what++) x.due(once.ask("count", what), "count", what);
    for (int k = 0; k < 23; k++) for (int what = 0; what < 5; what++) x.due(once.ask("entry", k, what), "entry", k, what);
    for (int k = 0; k < 3; k++) for (int what = 0; what < 4; what++) x.due(once.ask("solved", k, what), "solved", k, what);
    x.due(8, "steps", 20);
    once.due(8, "steps", 20);
    for (int k = 0; k < 13; k++) for (int what = 0; what < 4; what++) x.due(once.ask("doubtful", k, what), "doubtful", k, what);
  }

  private static void keptWhole() {
    int[] lows = {0, -256};
    for (int k = 0; k < 2; k++) {
      Talk x = longSearch(longSearch(new Talk(), lows[0]).due(23, "keep", 0), lows[1]).due(23, "keep", 1);
      otherSearch(x).due(23, "back", k);
      dueLike(longSearch(new Talk(), lows[k]), x);
    }
    // what it is, by itself
    Talk y = otherSearch(longSearch(new Talk(), 0).due(23, "keep", 1)).due(23, "back", 1);
    y.dueBox("entry", 0, 0, 256, 0, 256).dueBox("entry", 22, 64, 128, 192, 256).dueBox("solved", 2, 32, 32, 160, 160).dueBox("doubtful", 4, 64, 128, 192, 256);
    y.dueBox("first", 128, 192, 0, 64).due(8 * 64, "count", 14).due(8, "steps", 20).dueBox("doubtful", 12, 192, 256, 192, 256);
    // all 200 of them: the last 17 were parted
    Talk z = new Talk();
    entriesFull(z);
    int[] last = {z.ask("entry", 199, 0), z.ask("entry", 199, 1), z.ask("entry", 199, 2), z.ask("entry", 199, 3)};
    otherSearch(z.due(200, "keep", 0)).due(0, "entry", 199, 4).due(200, "back", 0).due(5, "entry", 199, 4).due(5, "entry", 183, 4).due(0, "entry", 182, 4);
    z.dueBox("entry", 199, last[0], last[1], last[2], last[3]);
  }

  /** 200 entries, elsewhere: 5 up to entry 10, 0 up to 21, and 0 at last. */
  private static Talk otherSearch(Talk x) {
    x.say("all").then("tell").then("begin", -512, -1, -512, -1).due(11, "steps", 11).then("put", 0, 0, 0, 1).due(11, "steps", 11).then("put", 0, 0, 0, 0);
    for (int k = 0; k < 3; k++) x.then("steps", 20);
    x.then("put", 0, 0, 0, 1).then("steps", 20).then("steps", 20).then("put", 0, 0, 0, 0).then("steps", 20).then("steps", 20).then("put", 0, 0, 0, 1);
    return x.then("steps", 20).then("steps", 20).then("steps", 20).due(200, "count", 3);
  }

  private static void back() {
    Talk x = Talk.busy().due(4, "back", 0).due(1, "count", 0).due(1, "count", 1).due(0, "count", 2).due(4, "count", 3).due(4, "count", 12);
    x.due(2, "count", 10).due(2, "count", 11).due(1, "term", 0, 1, 0).due(-1, "term", 1, 0, 0).due(0, "term", 0, 2, 0).dueBox("first", 128, 256, 0, 128);
    // what is held and the text are not among them
    x.due(-63, "value", 0, 0).due(-62, "value", 0, 1).due(-61, "value", 1, 0).due(-57, "value", 1, 1);
    Talk y = Talk.busy().say("least 9").due(4, "back", 0).due(7, "count", 13).due(1, "tell").due(9, "count", 12);
    y.then("put", 0, 0, 0, 0).due(1, "value", 0, 0).due(2, "value", 0, 1);
    new Talk().then("keep", 0).then("hold", 1, 2, 3, 4).then("back", 0).due(5, "verdict");
    new Talk().then("hold", 1, 2, 3, 4).then("keep", 0).say("all").due(1, "tell").then("back", 0).due(NOT, "verdict");
    new Talk().say("abc").then("keep", 0).due(3, "erase").then("back", 0).due(0, "count", 13);
    keptWhole();
    // it can be gone back to again, and goes on as it did
    Talk z = Talk.busy().due(8, "back", 1).due(0, "step").due(9, "count", 3).due(8, "back", 1).due(8, "count", 3).due(0, "step").due(4, "back", 0).due(8, "back", 1);
    z.due(8, "keep", 0).due(8, "back", 0).due(7, "count", 12);
    Talk once = new Talk().then("begin", -100, 90, -60, 130), again = new Talk().then("begin", -100, 90, -60, 130).then("keep", 0).then("steps", 20).then("back", 0);
    once.say("f 1 2 0;f -1 0 1;g 1 0 1;least 2").due(4, "tell").then("steps", 20);
    again.say("f 1 2 0;f -1 0 1;g 1 0 1;least 2").due(4, "tell").then("steps", 20);
    for (int what = 0; what < 15; what++) again.due(once.ask("count", what), "count", what);
    for (int what = 0; what < 4; what++) again.due(once.ask("first", what), "first", what);
  }

  private static void backRefused() {
    Talk x = new Talk().due(NOT, "back", 0).due(NOT, "back", 1).due(OUTSIDE, "back", -1).due(OUTSIDE, "back", 2).due(OUTSIDE, "back", HIGHEST).due(OUTSIDE, "back", LOWEST);
    x.due(0, "keep", 1).due(NOT, "back", 0).due(0, "back", 1).due(OUTSIDE, "back", 2).due(0, "keep", 0).due(0, "back", 0);
    new Talk().due(0, "keep", 0).due(NOT, "back", 1).due(0, "back", 0);
  }

  // ---- what is counted

  private static void countBoxes() {
    Talk x = Talk.busy().due(3, "count", 0).due(1, "count", 1).due(1, "count", 2).due(8, "count", 3);
    x.due(OUTSIDE, "count", -1).due(OUTSIDE, "count", LOWEST);
    x.then("put", 1, 0, 0, 1).due(0, "step").due(2, "count", 0).due(9, "count", 3);
  }

  private static void countVerdicts() {
    // 0 and 1 by what f and g are then, 3, 4 and 5 by the point x = 1, y = 1
    Talk x = Talk.told("least 64;box 0 512 0 128").due(2, "steps", 2).then("put", 1, 0, 0, 1).due(1, "step").due(1, "count", 5).due(0, "count", 4);
    x.then("put", 0, 0, 0, 1).due(0, "step").due(1, "count", 4).due(1, "count", 5).due(2, "count", 9).due(0, "count", 6).due(0, "count", 7).due(0, "count", 8);
    x.due(0, "step").due(2, "count", 4).due(1, "count", 5).due(5, "count", 3);
    // the verdict that it got
    x.then("put", 0, 0, 0, 0).due(2, "count", 4).due(2, "count", 9);
    Talk.told("f 1 1 0;f 1 0 1;f -1 0 0;g 1 1 0;g 2 0 1;g -1 0 0;box 0 60 1 70").due(2, "step").due(1, "count", 6).due(0, "count", 5).due(0, "count", 7);
    Talk y = Talk.told("f 1 1 0;f -1 0 0;g 1 0 1;g -1 0 0;box 0 64 0 200").due(4, "step").due(1, "count", 8).due(0, "count", 9).due(5, "step").due(1, "count", 9);
    y.due(1, "count", 8).due(0, "count", 7).then("begin", 0, 200, 0, 200).due(3, "step").due(1, "count", 7).due(0, "count", 8).due(0, "count", 9);
  }

  private static void countOthers() {
    Talk x = new Talk();
    for (int i = 0; i <= 4; i++) x.then("put", 0, i, 0, 1).due(i + 1, "count", 10).due(0, "count", 11);
    x.then("put", 0, 2, 0, 0).due(4, "count", 10).then("put", 1, 0, 0, 1).due(1, "count", 11).due(4, "count", 10);
    x.due(4, "count", 12).then("least", 1).due(1, "count", 12).then("least", 64).due(64, "count", 12);
    x.due(0, "count", 13).then("write", 0).due(1, "count", 13).then("erase").due(0, "count", 13).say("z".repeat(200)).due(200, "count", 13);
  }

  private static void countWidths() {
    Talk x = new Talk().due(0, "count", 14).then("begin", -512, 512, 0, 1).due(1024, "count", 14).then("begin", 3, 4, 0, 9).due(1, "count", 14);
    // parted in x they are as wide together, parted in y each is as wide as before
    x.due(5, "step").due(2, "count", 14).then("begin", 0, 9, 0, 1).due(5, "step").due(9, "count", 14);
    Talk.told("f 1 1 0;f -1 0 0;g 1 0 1;g -1 0 0;box 0 64 0 200").due(4, "step").due(1, "count", 0).due(0, "count", 14);
    // 64 of 128
    new Talk().then("begin", -512, 512, -512, 512).then("steps", 20).then("steps", 20).then("steps", 20).then("steps", 20).due(64 * 128, "count", 14);
    new Talk().due(OUTSIDE, "count", 15).due(OUTSIDE, "count", 16).due(OUTSIDE, "count", HIGHEST).due(0, "count", 14).due(OUTSIDE, "count", -1);
  }
}
