/** The sentences on THE SEARCH, its STEPS and its PROOF, and promises 14 to 23, at their bounds. */
public final class SearchSentences {
  private static final int NONE = Talk.NONE, UNKNOWN = Talk.UNKNOWN, OUTSIDE = Talk.OUTSIDE, NOT = Talk.NOT, FULL = Talk.FULL;
  private static final int LOWEST = Integer.MIN_VALUE, HIGHEST = Integer.MAX_VALUE;

  /** x = 1 and y = 1. */
  private static final String POINT = "f 1 1 0;f -1 0 0;g 1 0 1;g -1 0 0";
  /** x + y = 1 and x + 2 y = 1: they meet at x 64, y 0. */
  private static final String LINES = "f 1 1 0;f 1 0 1;f -1 0 0;g 1 1 0;g 2 0 1;g -1 0 0";

  public static void main(String[] args) {
    bounds();
    order();
    stepping();
    asking();
    Sentences.end();
  }

  private static void bounds() {
    Sentences.sentence("THE SEARCH has BOXES that are OPEN (64 at most)", SearchSentences::open64);
    Sentences.sentence("ENTRIES (200 at most), each a BOX and the VERDICT that it got", SearchSentences::entries200);
    Sentences.sentence("SOLVED, DOUBTFUL, and a PROOF", SearchSentences::moreThan64);
    Sentences.sentence("none of all at first", SearchSentences::noneAtFirst);
    Sentences.sentence("LEAST (1 .. 64; 4 at first)", SearchSentences::leastBounds);
  }

  private static void order() {
    Sentences.sentence("The FIRST of the OPEN ones: the one of which the greater WIDTH is the greatest", SearchSentences::widestFirst);
    Sentences.sentence("of like ones that of the least LOW of x", SearchSentences::leastLowOfX);
    Sentences.sentence("that of the least LOW of x, then of y", SearchSentences::leastLowOfY);
    Sentences.sentence("then the least HIGH of x", SearchSentences::leastHighOfX);
    Sentences.sentence("then the least HIGH of x, then of y.", SearchSentences::leastHighOfY);
    Sentences.sentence("SOLVED ones are numbered by LOW of x", SearchSentences::solvedByLowOfX);
    Sentences.sentence("of like ones by LOW of y", SearchSentences::solvedByLowOfY);
    Sentences.sentence("DOUBTFUL ones, ENTRIES as they came.", SearchSentences::asTheyCame);
  }

  private static void stepping() {
    Sentences.sentence("the FIRST is not OPEN any more; it is an ENTRY more, with its VERDICT.", SearchSentences::entryMore);
    Sentences.sentence("0, 1, 2: nothing else.", SearchSentences::nothingElse);
    Sentences.sentence("3: its FENCE is SOLVED.", SearchSentences::fenceIsSolved);
    Sentences.sentence("4: what is SHARED is OPEN.", SearchSentences::sharedIsOpen);
    Sentences.sentence("5: if its greater WIDTH is LEAST (1 .. 64; 4 at first) or less, it is DOUBTFUL", SearchSentences::isDoubtful);
    Sentences.sentence("else it is parted at MIDDLE of the SPAN of the greater WIDTH (of like ones x)", SearchSentences::isParted);
    Sentences.sentence("two BOXES, LOW to MIDDLE, MIDDLE to HIGH, the other SPAN as it is, are OPEN", SearchSentences::twoBoxes);
    Sentences.sentence("THE SEARCH begins anew with a BOX that is OPEN: x a to b, y c to d: its greater WIDTH.", SearchSentences::begin);
    Sentences.sentence("OUTSIDE (b not above a, d not above c, too).", SearchSentences::beginRefused);
    Sentences.sentence("LEAST: what it was. OUTSIDE.", SearchSentences::least);
    Sentences.sentence("A STEP: the VERDICT. NOT: nothing is OPEN", SearchSentences::stepNot);
    Sentences.sentence("FULL: there are 200 ENTRIES", SearchSentences::stepFullOfEntries);
    Sentences.sentence("or more than 64 would be OPEN", SearchSentences::stepFullOfOpen);
    Sentences.sentence("STEPS, n (1 .. 20) at most", SearchSentences::stepsBounds);
    Sentences.sentence("as long as none would be refused: how many.", SearchSentences::stepsHowMany);
  }

  private static void asking() {
    Sentences.sentence("Of the FIRST of the OPEN ones: LOW of x (what 0), HIGH (1), LOW of y (2), HIGH (3). OUTSIDE; NOT: nothing is OPEN.",
        SearchSentences::first);
    Sentences.sentence("Of a SOLVED BOX, likewise. UNKNOWN; OUTSIDE.", SearchSentences::solved);
    Sentences.sentence("Of a DOUBTFUL BOX, likewise. UNKNOWN; OUTSIDE.", SearchSentences::doubtful);
    Sentences.sentence("Of an ENTRY, likewise; its VERDICT (what 4)", SearchSentences::entry);
    Sentences.sentence("the VERDICT that its BOX would get now (5)", SearchSentences::entryNow);
    Sentences.sentence("The first ENTRY whose BOX would get another VERDICT now", SearchSentences::broken);
    Sentences.sentence("NONE: PROOF still holds.", SearchSentences::brokenNone);
    Sentences.sentence("Whether a point (-512 .. 512) is in any OPEN BOX (1), SOLVED one (2), DOUBTFUL one (4)", SearchSentences::find);
    Sentences.sentence("in that of an ENTRY with VERDICT 0, 1, 2 (8)", SearchSentences::findShown);
    Sentences.sentence("(borders belong to BOXES)", SearchSentences::findBorders);
  }

  // ---- bounds

  /** No terms: each step parts a box, so 63 steps make 64 of them, 8 by 8. */
  private static Talk with64Open(int low, int high) {
    return new Talk().then("begin", low, high, low, high).due(20, "steps", 20).due(20, "steps", 20).due(20, "steps", 20).due(3, "steps", 3)
        .due(64, "count", 0).due(63, "count", 3);
  }

  private static void open64() {
    Talk x = new Talk().then("begin", -512, 512, -512, 512);
    for (int k = 1; k <= 63; k++) x.due(5, "step").due(k + 1, "count", 0);
    x.due(FULL, "step").due(64, "count", 0).due(63, "count", 3).dueBox("first", -512, -384, -512, -384);
    // where one goes there is room for one more
    x.then("put", 0, 0, 0, 1).due(0, "step").due(63, "count", 0).then("put", 0, 0, 0, 0).due(5, "step").due(64, "count", 0).due(FULL, "step");
  }

  /**
   * 200 entries: 63 are parted, one made smaller, 62 are shown to have no root (f is 1 then), 36 are parted, and the last 38 go
   * or, for what is left open, all but some of them.
   */
  private static Talk with200Entries(int left) {
    Talk x = with64Open(0, 512).then("least", 1);
    x.then("put", 0, 1, 0, 1).then("put", 1, 0, 1, 1).due(4, "step").then("put", 0, 1, 0, 0).then("put", 1, 0, 1, 0);
    x.then("put", 0, 0, 0, 1).due(20, "steps", 20).due(20, "steps", 20).due(20, "steps", 20).due(2, "steps", 2).due(2, "count", 0);
    x.then("put", 0, 0, 0, 0).due(20, "steps", 20).due(16, "steps", 16).due(38, "count", 0).due(162, "count", 3);
    // each parting leaves one more at the end, and takes one step less to go
    for (int k = 0; k < left; k++) x.due(5, "step");
    x.then("put", 0, 0, 0, 1);
    for (int k = left; k < 38; k++) x.due(0, "step");
    return x.due(200, "count", 3).due(2 * left, "count", 0);
  }

  private static void entries200() {
    with200Entries(0).due(NOT, "step");
    Talk x = with200Entries(1).due(FULL, "step").due(0, "steps", 20).due(200, "count", 3).due(2, "count", 0).due(UNKNOWN, "entry", 200, 0);
    Sentences.must("the last entry is there", x.ask("entry", 199, 4) == 0);
    // each a BOX and the VERDICT that it got, though the polynomial is another now
    Talk y = Talk.told(POINT + ";box 0 64 0 200").due(4, "step").then("put", 0, 0, 0, 20).due(0, "step");
    y.due(4, "entry", 0, 4).due(0, "entry", 1, 4).dueBox("entry", 0, 0, 64, 0, 200).dueBox("entry", 1, 64, 64, 64, 64);
  }

  /** Of 64 open ones, 8 by 8, 40 are settled; by 24 steps those of the next column are parted in four; then the wider 16 go first. */
  private static void moreThan64() {
    Talk x = with64Open(-256, 256).then("least", 64).due(20, "steps", 20).due(20, "steps", 20).due(40, "count", 2).then("least", 1);
    x.due(20, "steps", 20).due(4, "steps", 4).due(48, "count", 0).then("least", 64).due(20, "steps", 20).due(20, "steps", 20).due(8, "steps", 20);
    x.due(88, "count", 2).due(0, "count", 0).due(175, "count", 3).due(UNKNOWN, "doubtful", 88, 0);
    x.dueBox("doubtful", 0, -256, -192, -256, -192).dueBox("doubtful", 39, 0, 64, 192, 256).dueBox("doubtful", 40, 128, 192, -256, -192);
    x.dueBox("doubtful", 55, 192, 256, 192, 256).dueBox("doubtful", 56, 64, 96, -256, -224).dueBox("doubtful", 87, 96, 128, 224, 256);
    x.due(175, "keep", 0).say("all").due(1, "tell").due(175, "back", 0).due(88, "count", 2).dueBox("doubtful", 87, 96, 128, 224, 256);
    Talk y = with64Open(-512, 512);
    solveFirst(y, 40);
    y.say("f 0 1 0;f 0 0 0;g 0 0 1;g 0 0 0").due(4, "tell").due(20, "steps", 20).due(4, "steps", 4).due(48, "count", 0);
    solveFirst(y, 40);
    y.due(80, "count", 1).due(167, "count", 3).due(8, "count", 0).due(UNKNOWN, "solved", 80, 0);
    y.dueBox("solved", 0, -480, -480, -480, -480).dueBox("solved", 39, 32, 32, 416, 416).dueBox("solved", 40, 160, 160, -480, -480);
    y.dueBox("solved", 55, 160, 160, 480, 480).dueBox("solved", 63, 224, 224, -32, -32).dueBox("solved", 64, 288, 288, -480, -480);
    y.dueBox("solved", 79, 416, 416, 416, 416);
  }

  /** A root 32 above both LOWS, which is within the box: it is 64 wide and high, or more. */
  private static void solveFirst(Talk x, int times) {
    int oldX = HIGHEST, oldY = HIGHEST;
    x.then("put", 0, 1, 0, 2).then("put", 1, 0, 1, 2);
    for (int k = 0; k < times; k++) {
      int lowX = x.ask("first", 0), lowY = x.ask("first", 2);
      if (lowX != oldX) x.then("put", 0, 0, 0, -(lowX + 32) / 32);
      if (lowY != oldY) x.then("put", 1, 0, 0, -(lowY + 32) / 32);
      x.due(3, "step");
      oldX = lowX;
      oldY = lowY;
    }
  }

  private static void noneAtFirst() {
    Talk x = new Talk();
    for (int what = 0; what < 10; what++) x.due(0, "count", what);
    x.due(0, "count", 14).due(NOT, "first", 0).due(UNKNOWN, "solved", 0, 0).due(UNKNOWN, "doubtful", 0, 0).due(UNKNOWN, "entry", 0, 4);
    x.due(NONE, "broken").due(0, "find", 0, 0).due(NOT, "step").due(0, "steps", 1);
  }

  private static void leastBounds() {
    new Talk().due(4, "count", 12).due(4, "least", 1).due(1, "least", 64).due(64, "count", 12).due(OUTSIDE, "least", 65).due(OUTSIDE, "least", 0)
        .due(OUTSIDE, "least", -1).due(OUTSIDE, "least", HIGHEST).due(OUTSIDE, "least", LOWEST).due(64, "count", 12).due(64, "least", 2);
    // 4 at first: 4 is doubtful, 5 is parted
    new Talk().then("begin", 0, 4, 0, 1).due(5, "step").due(1, "count", 2).due(0, "count", 0);
    new Talk().then("begin", 0, 5, 0, 1).due(5, "step").due(0, "count", 2).due(2, "count", 0);
  }

  // ---- order

  private static void widestFirst() {
    // 0 .. 5 and 5 .. 11: the wider one, though its LOW is not the least
    new Talk().then("begin", 0, 11, 0, 1).due(5, "step").dueBox("first", 5, 11, 0, 1);
    new Talk().then("begin", 0, 1, 0, 11).due(5, "step").dueBox("first", 0, 1, 5, 11);
    // the greater of both: 8 by 16 is like 16 by 16, 5 by 4 goes before 4 by 4
    Talk y = new Talk().then("begin", 0, 16, 0, 32).due(5, "step").due(5, "step").dueBox("first", 0, 8, 0, 16).due(5, "step");
    y.dueBox("first", 0, 16, 16, 32).due(5, "step").dueBox("first", 0, 8, 16, 32).due(5, "step").dueBox("first", 8, 16, 0, 16);
    Talk z = new Talk().then("begin", 0, 9, 0, 8).due(5, "step").dueBox("first", 0, 4, 0, 8).due(5, "step").dueBox("first", 4, 9, 0, 8);
    z.due(5, "step").dueBox("first", 4, 9, 0, 4).due(5, "step").dueBox("first", 4, 9, 4, 8);
  }

  private static void leastLowOfX() {
    new Talk().then("begin", -8, 8, 0, 1).due(5, "step").dueBox("first", -8, 0, 0, 1).due(5, "step").dueBox("first", 0, 8, 0, 1);
    // before LOW of y: 0 .. 8 at y 8 goes before 4 .. 8 at y 0
    Talk x = new Talk().then("begin", 0, 16, 0, 16).due(5, "step").due(5, "step").due(5, "step").dueBox("first", 0, 8, 0, 8).due(5, "step");
    x.dueBox("first", 0, 4, 0, 8).due(5, "step").dueBox("first", 0, 8, 8, 16);
  }

  private static void leastLowOfY() {
    new Talk().then("begin", 0, 1, -8, 8).due(5, "step").dueBox("first", 0, 1, -8, 0).due(5, "step").dueBox("first", 0, 1, 0, 8);
    // before HIGH of x: the upper half, wider by 1, is made smaller to 7 .. 8, -3 .. 2
    Talk x = Talk.told("box 7 11 -9 2").due(5, "step").say("f -1 1 0;f -4 0 1;g 1 1 1;g 4 2 0;g -3 2 1").due(5, "tell").due(4, "step");
    x.due(2, "count", 0).due(5, "count", 14).dueBox("first", 7, 11, -9, -4).then("put", 0, 0, 0, 20).due(0, "step").dueBox("first", 7, 8, -3, 2);
  }

  private static void leastHighOfX() {
    // one half is made smaller to the border of the other: like greater widths, like LOWS
    Talk x = Talk.told("box -103 -83 15 25").due(5, "step").say("f -7 1 3;g -7 0 1;g -5 1 1;g 1 0 0").due(4, "tell");
    x.due(4, "step").dueBox("first", -93, -93, 15, 25).due(2, "count", 0).due(10, "count", 14).then("put", 0, 0, 0, 20).due(0, "step");
    x.dueBox("entry", 2, -93, -93, 15, 25).dueBox("first", -93, -83, 15, 25);
    // before HIGH of y: the other half, wider by 1, was made smaller to y 15 .. 19
    Talk y = Talk.told("box -103 -82 15 25").due(5, "step").say("f 5 0 3;g 7 0 0;g 3 0 1;g -4 2 0").due(4, "tell").due(4, "step");
    y.say("f 0 0 3;f -7 1 3;g 1 0 0;g -7 0 1;g 0 2 0;g -5 1 1").due(6, "tell").due(4, "step").due(2, "count", 0).dueBox("first", -93, -93, 15, 25);
    y.then("put", 0, 0, 0, 20).due(0, "step").dueBox("first", -93, -83, 15, 19);
  }

  private static void leastHighOfY() {
    Talk x = Talk.told("box 15 25 -103 -83").due(5, "step").say("f -7 3 1;g -7 1 0;g -5 1 1;g 1 0 0").due(4, "tell");
    x.due(4, "step").dueBox("first", 15, 25, -93, -93).due(2, "count", 0).due(20, "count", 14).then("put", 0, 0, 0, 20).due(0, "step");
    x.dueBox("entry", 2, 15, 25, -93, -93).dueBox("first", 15, 25, -93, -83);
    // where y is above x, too
    Talk y = Talk.told("box -131 -122 209 227").due(5, "step").say("f -4 3 0;f -2 2 1;g 1 1 1;g -1 3 0").due(4, "tell");
    y.due(4, "step").due(2, "count", 0).dueBox("first", -131, -122, 218, 218).then("put", 0, 0, 0, 20).due(0, "step");
    y.dueBox("first", -131, -122, 218, 227);
  }

  /** The wider half, at x or y 127 and above, goes first: its root at 192 is solved before that at 64. */
  private static void solvedByLowOfX() {
    Talk x = new Talk().then("begin", 0, 255, 0, 100).due(5, "step").say("f 1 1 0;f -3 0 0;g 1 0 1;g -1 0 0").due(4, "tell");
    x.due(3, "step").dueBox("solved", 0, 192, 192, 64, 64).then("put", 0, 0, 0, -1).due(3, "step").due(2, "count", 1);
    x.dueBox("solved", 0, 64, 64, 64, 64).dueBox("solved", 1, 192, 192, 64, 64);
    // before LOW of y
    Talk y = new Talk().then("begin", 0, 255, 0, 255).due(5, "step").say("f 1 1 0;f -1 0 0;g 1 0 1;g -3 0 0").due(4, "tell").due(3, "step");
    y.then("put", 0, 0, 0, -3).then("put", 1, 0, 0, -1).due(3, "step").due(2, "count", 1);
    y.dueBox("solved", 0, 64, 64, 192, 192).dueBox("solved", 1, 192, 192, 64, 64);
    dueEachBelow(true);
    dueOneBetween(true);
    dueEachAbove(true);
  }

  /** A search along x, or along y: the other is -1 .. 1, and its root 0. */
  private static Talk along(boolean x, int low, int high) {
    return x ? new Talk().then("begin", low, high, -1, 1) : new Talk().then("begin", -1, 1, low, high);
  }

  /** What is first has a root at k times 64 by c then. */
  private static void solveAt(Talk t, boolean x, int c, int k) {
    t.then("put", 0, x ? 1 : 0, x ? 0 : 1, c).then("put", 0, 0, 0, -k).then("put", 1, x ? 0 : 1, x ? 1 : 0, 1).due(3, "step");
    t.then("put", 0, x ? 1 : 0, x ? 0 : 1, 0).then("put", 0, 0, 0, 0).then("put", 1, x ? 0 : 1, x ? 1 : 0, 0);
  }

  private static void dueSolvedAt(Talk t, boolean x, int... roots) {
    t.due(roots.length, "count", 1);
    for (int k = 0; k < roots.length; k++) {
      t.dueBox("solved", k, x ? roots[k] : 0, x ? roots[k] : 0, x ? 0 : roots[k], x ? 0 : roots[k]);
    }
  }

  /** The upper of two halves is the wider by 1 and goes first, so each that is solved lies below all others. */
  private static void dueEachBelow(boolean x) {
    Talk t = along(x, -300, 211).due(5, "step");
    solveAt(t, x, 1, 0);
    solveAt(t.due(5, "step"), x, 1, -1);
    solveAt(t.due(5, "step"), x, 1, -3);
    dueSolvedAt(t, x, -192, -64, 0);
    solveAt(t.due(5, "step"), x, 1, -4);
    solveAt(t.due(5, "step"), x, 4, -17);
    dueSolvedAt(t, x, -272, -256, -192, -64, 0);
  }

  private static void dueOneBetween(boolean x) {
    Talk t = along(x, -300, 211).due(5, "step");
    solveAt(t, x, 1, 0);
    solveAt(t.due(5, "step").due(5, "step"), x, 1, -4);
    solveAt(t, x, 1, -2);
    dueSolvedAt(t, x, -256, -128, 0);
    solveAt(t, x, 1, -1);
    dueSolvedAt(t, x, -256, -128, -64, 0);
  }

  private static void dueEachAbove(boolean x) {
    Talk t = along(x, -256, 256).due(3, "steps", 3);
    for (int k = -3; k <= 3; k += 2) solveAt(t, x, 1, k);
    dueSolvedAt(t, x, -192, -64, 64, 192);
  }

  /** LOWS of both that are alike cannot be: each lies within its own box, and boxes have borders alone in common. */
  private static void solvedByLowOfY() {
    Talk x = new Talk().then("begin", 0, 100, 0, 255).due(5, "step").say("f 1 1 0;f -1 0 0;g 1 0 1;g -3 0 0").due(4, "tell");
    x.due(3, "step").dueBox("solved", 0, 64, 64, 192, 192).then("put", 1, 0, 0, -1).due(3, "step").due(2, "count", 1);
    x.dueBox("solved", 0, 64, 64, 64, 64).dueBox("solved", 1, 64, 64, 192, 192);
    dueEachBelow(false);
    dueOneBetween(false);
    dueEachAbove(false);
  }

  private static void asTheyCame() {
    // the wider one comes first, though its LOW is the greater
    Talk x = new Talk().then("begin", 0, 7, 0, 1).due(3, "steps", 20);
    x.dueBox("doubtful", 0, 3, 7, 0, 1).dueBox("doubtful", 1, 0, 3, 0, 1).due(UNKNOWN, "doubtful", 2, 0);
    x.dueBox("entry", 0, 0, 7, 0, 1).dueBox("entry", 1, 3, 7, 0, 1).dueBox("entry", 2, 0, 3, 0, 1);
  }

  // ---- stepping

  private static void entryMore() {
    Talk x = Talk.told("f 1 0 0;box 1 9 2 7").due(0, "step").due(0, "count", 0).due(1, "count", 3).dueBox("entry", 0, 1, 9, 2, 7).due(0, "entry", 0, 4);
    x.due(NOT, "step").due(0, "find", 0, 0).due(8, "find", 1, 2);
    Talk y = Talk.told("box 0 16 0 4").due(5, "step").due(1, "count", 3).dueBox("entry", 0, 0, 16, 0, 4).due(5, "entry", 0, 4);
    y.due(5, "step").due(2, "count", 3).dueBox("entry", 1, 0, 8, 0, 4).due(3, "count", 0);
  }

  private static void dueNothingElse(Talk x, int verdict) {
    x.due(verdict, "step").due(0, "count", 0).due(0, "count", 1).due(0, "count", 2).due(1, "count", 3).due(1, "count", 4 + verdict);
  }

  private static void nothingElse() {
    dueNothingElse(Talk.told(POINT + ";box 65 200 0 200"), 0);
    dueNothingElse(Talk.told(POINT + ";box 0 200 65 200"), 1);
    dueNothingElse(Talk.told(LINES + ";box 0 60 1 70"), 2);
    // not doubtful, though it is small enough
    dueNothingElse(Talk.told("f 1 0 0;least 64;box 0 1 0 1"), 0);
    dueNothingElse(Talk.told("g 1 0 0;least 64;box 0 1 0 1"), 1);
  }

  private static void fenceIsSolved() {
    Talk x = Talk.told(POINT + ";box 0 200 -10 200").due(3, "step").due(1, "count", 1).dueBox("solved", 0, 64, 64, 64, 64);
    x.due(0, "count", 0).due(0, "count", 2).dueBox("entry", 0, 0, 200, -10, 200).due(3, "entry", 0, 4);
    Talk.told("f 3 1 0;f -1 0 0;g 3 0 1;g 1 0 0;box 0 64 -64 0").due(3, "step").dueBox("solved", 0, 21, 22, -22, -21);
    // not doubtful, though it is small enough
    Talk.told(POINT + ";least 64;box 63 65 63 65").due(3, "step").due(1, "count", 1).due(0, "count", 2);
  }

  private static void sharedIsOpen() {
    Talk x = Talk.told(POINT + ";box 0 64 0 200").due(4, "step").due(1, "count", 0).dueBox("first", 64, 64, 64, 64).due(0, "count", 14);
    x.due(0, "count", 1).due(0, "count", 2).dueBox("entry", 0, 0, 64, 0, 200);
    // of no width it is open all the same, and its verdict is 5 then
    x.due(5, "step").dueBox("doubtful", 0, 64, 64, 64, 64).due(0, "count", 0);
    // not doubtful, though it is small enough
    Talk.told(POINT + ";least 64;box 64 65 63 65").due(4, "step").due(0, "count", 2).due(1, "count", 0);
    Talk.told("f -1 1 1;f 1 2 0;g -2 2 0;box -17 -4 -20 -18").due(4, "step").due(1, "count", 0).dueBox("first", -11, -4, -20, -18);
  }

  private static void dueDoubtful(int least, int width) {
    new Talk().then("least", least).then("begin", 0, width, 0, 1).due(5, "step").due(1, "count", 2).due(0, "count", 0).dueBox("doubtful", 0, 0, width, 0, 1);
    new Talk().then("least", least).then("begin", 0, 1, 0, width).due(5, "step").due(1, "count", 2).due(0, "count", 0).dueBox("doubtful", 0, 0, 1, 0, width);
    new Talk().then("least", least).then("begin", 0, width + 1, 0, 1).due(5, "step").due(0, "count", 2).due(2, "count", 0);
    new Talk().then("least", least).then("begin", 0, 1, 0, width + 1).due(5, "step").due(0, "count", 2).due(2, "count", 0);
  }

  private static void isDoubtful() {
    dueDoubtful(1, 1);
    dueDoubtful(2, 2);
    dueDoubtful(4, 4);
    dueDoubtful(63, 63);
    dueDoubtful(64, 64);
    // the greater width of both, not both together
    new Talk().then("begin", 0, 4, 0, 4).due(5, "step").due(1, "count", 2);
    new Talk().then("begin", 0, 3, 0, 5).due(5, "step").due(0, "count", 2);
    // LEAST as it is at the step
    Talk x = new Talk().then("begin", 0, 16, 0, 1).due(5, "step").then("least", 8).due(5, "step").due(1, "count", 2).then("least", 7).due(5, "step");
    x.due(1, "count", 2).due(2, "count", 0);
  }

  private static void isParted() {
    new Talk().then("begin", 0, 10, 0, 20).due(5, "step").dueBox("first", 0, 10, 0, 10);
    new Talk().then("begin", 0, 20, 0, 10).due(5, "step").dueBox("first", 0, 10, 0, 10);
    // of like ones x
    new Talk().then("begin", 0, 20, 0, 20).due(5, "step").dueBox("first", 0, 10, 0, 20);
    new Talk().then("begin", 0, 20, 0, 21).due(5, "step").dueBox("first", 0, 20, 0, 10);
    new Talk().then("begin", 0, 21, 0, 20).due(5, "step").dueBox("first", 0, 10, 0, 20);
  }

  private static void twoBoxes() {
    Talk x = new Talk().then("least", 1).then("begin", -5, 2, 10, 12).due(5, "step").due(2, "count", 0).due(7, "count", 14).dueBox("first", -2, 2, 10, 12);
    x.due(1, "find", -2, 10).due(1, "find", -5, 12).due(1, "find", 2, 12).due(0, "find", -6, 10);
    x.then("put", 0, 0, 0, 1).due(0, "step").dueBox("first", -5, -2, 10, 12).due(0, "step").due(NOT, "step");
    Talk y = new Talk().then("least", 1).then("begin", 10, 12, -5, 2).due(5, "step").due(2, "count", 0).due(4, "count", 14).dueBox("first", 10, 12, -2, 2);
    y.then("put", 0, 0, 0, 1).due(0, "step").dueBox("first", 10, 12, -5, -2);
    // 2 is parted in 1 and 1
    Talk z = new Talk().then("least", 1).then("begin", 0, 2, 0, 1).due(3, "steps", 20).due(2, "count", 2);
    z.dueBox("doubtful", 0, 0, 1, 0, 1).dueBox("doubtful", 1, 1, 2, 0, 1);
  }

  private static void begin() {
    Talk x = Talk.busy().due(9, "begin", -4, 5, 6, 7);
    for (int what = 0; what < 10; what++) x.due(what == 0 ? 1 : 0, "count", what);
    x.dueBox("first", -4, 5, 6, 7).due(UNKNOWN, "solved", 0, 0).due(UNKNOWN, "doubtful", 0, 0).due(UNKNOWN, "entry", 0, 0).due(NONE, "broken");
    // polynomials, LEAST, what is held and what is kept stay
    x.due(1, "count", 10).due(1, "count", 11).due(7, "count", 12).due(-14, "value", 1, 0).due(4, "back", 0).due(8, "back", 1);
    new Talk().due(1, "begin", 0, 1, 0, 1).due(3, "begin", 0, 1, 0, 3).due(3, "begin", 0, 3, 0, 1).due(1024, "begin", -512, 512, 0, 1).due(1, "count", 0);
    // also when it was full
    with200Entries(1).due(1, "begin", 0, 1, 0, 1).due(0, "count", 3).due(0, "step").due(1, "count", 3);
  }

  private static void beginRefused() {
    Talk x = new Talk().due(OUTSIDE, "begin", 5, 5, 0, 1).due(OUTSIDE, "begin", 5, 4, 0, 1).due(OUTSIDE, "begin", 0, 1, 5, 5).due(OUTSIDE, "begin", 0, 1, 5, 4);
    x.due(OUTSIDE, "begin", 0, 0, 0, 0).due(OUTSIDE, "begin", 512, 512, -512, 512).due(OUTSIDE, "begin", -512, 512, -512, -512).due(0, "count", 0);
    x.due(1, "begin", 5, 6, 0, 1).due(OUTSIDE, "begin", 6, 5, 0, 1).dueBox("first", 5, 6, 0, 1).due(1, "begin", 0, 1, 5, 6);
  }

  private static void least() {
    Talk x = new Talk().due(4, "least", 5).due(5, "least", 5).due(5, "least", 64).due(64, "least", 1).due(1, "count", 12);
    x.due(OUTSIDE, "least", 0).due(OUTSIDE, "least", 65).due(1, "least", 4);
    // the search stays
    Talk.busy().due(7, "least", 1).due(3, "count", 0).due(1, "count", 1).due(1, "count", 2).due(8, "count", 3).due(8, "back", 1).due(7, "count", 12);
  }

  private static void stepNot() {
    new Talk().due(NOT, "step").due(NOT, "step").due(0, "count", 3);
    Talk x = Talk.told("f 1 0 0;box 0 1 0 1").due(0, "step").due(NOT, "step").due(1, "count", 3);
    x.due(1, "begin", 0, 1, 0, 1).due(0, "step");
    // each verdict is told
    Talk.told("g 1 0 0;box 0 1 0 1").due(1, "step");
    Talk.told(LINES + ";box 0 60 1 70").due(2, "step");
    Talk.told(POINT + ";box 0 200 0 200").due(3, "step");
    Talk.told(POINT + ";box 0 64 0 200").due(4, "step").due(5, "step");
  }

  private static void stepFullOfEntries() {
    // 199 are no reason yet; at 200 no verdict is taken any more
    Talk x = with200Entries(1).due(FULL, "step").due(200, "count", 3).due(2, "count", 0).due(FULL, "step");
    x.then("put", 0, 0, 0, 0).due(FULL, "step").then("least", 64).due(FULL, "step").due(2, "count", 0).due(0, "count", 2).due(200, "count", 3);
    // what is kept with 200 has them when it is gone back to
    x.due(200, "keep", 0).then("begin", 0, 1, 0, 1).due(5, "step").due(200, "back", 0).due(FULL, "step").due(2, "count", 0);
  }

  private static void stepFullOfOpen() {
    with64Open(-512, 512).due(FULL, "step").due(FULL, "step").due(64, "count", 0).due(63, "count", 3).due(0, "count", 2);
    // a step by which no more are open is taken: 0, 1, 2, 3, 4, and 5 that is doubtful
    with64Open(-512, 512).then("put", 0, 0, 0, 1).due(0, "step").due(63, "count", 0);
    with64Open(-512, 512).then("put", 1, 0, 0, 1).due(1, "step").due(63, "count", 0);
    with64Open(-512, 512).say("f 1 1 0;f 7 0 0;g 1 0 1;g 7 0 0").due(4, "tell").due(3, "step").due(63, "count", 0).due(1, "count", 1);
    with64Open(-512, 512).say("f 1 1 0;f 8 0 0;g 1 0 1;g 8 0 0").due(4, "tell").due(4, "step").due(64, "count", 0).due(64, "count", 3);
    with64Open(-256, 256).then("least", 63).due(FULL, "step").then("least", 64).due(5, "step").due(63, "count", 0).due(1, "count", 2);
    // 63 are no reason yet
    new Talk().then("begin", -512, 512, -512, 512).due(20, "steps", 20).due(20, "steps", 20).due(20, "steps", 20).due(2, "steps", 2)
        .due(63, "count", 0).due(5, "step").due(64, "count", 0);
    // two lines go through the first box, but meet beside it, at x -256, y -512
    with64Open(-512, 512).say("f 1 1 0;f 1 0 1;f 12 0 0;g 1 1 0;g 2 0 1;g 20 0 0").due(6, "tell").due(2, "step").due(63, "count", 0);
  }

  private static void stepsBounds() {
    Talk x = new Talk().then("begin", -512, 512, -512, 512);
    x.due(OUTSIDE, "steps", 0).due(OUTSIDE, "steps", 21).due(OUTSIDE, "steps", -1).due(OUTSIDE, "steps", HIGHEST).due(OUTSIDE, "steps", LOWEST);
    x.due(0, "count", 3).due(1, "steps", 1).due(1, "count", 3).due(20, "steps", 20).due(21, "count", 3).due(19, "steps", 19).due(40, "count", 3);
    // also where nothing is open
    new Talk().due(OUTSIDE, "steps", 0).due(OUTSIDE, "steps", 21).due(0, "steps", 1).due(0, "steps", 20);
  }

  private static void stepsHowMany() {
    // until nothing is open
    new Talk().then("begin", 0, 8, 0, 4).due(3, "steps", 20).due(0, "count", 0).due(0, "steps", 20).due(3, "count", 3);
    new Talk().then("begin", 0, 8, 0, 4).due(2, "steps", 2).due(1, "count", 0).due(1, "steps", 2);
    new Talk().then("begin", 0, 8, 0, 4).due(3, "steps", 3).due(0, "count", 0);
    // until 65 would be open
    Talk x = new Talk().then("begin", -512, 512, -512, 512).due(20, "steps", 20).due(20, "steps", 20).due(20, "steps", 20).due(3, "steps", 20);
    x.due(63, "count", 3).due(64, "count", 0).due(0, "steps", 20).due(63, "count", 3).due(64, "count", 0);
    // until there are 200 entries
    Talk y = with64Open(0, 512).then("least", 1).then("put", 0, 0, 0, 1).due(20, "steps", 20).due(20, "steps", 20).due(20, "steps", 20);
    y.then("put", 0, 0, 0, 0).due(20, "steps", 20).due(20, "steps", 20).due(20, "steps", 20).due(183, "count", 3).due(64, "count", 0);
    y.then("put", 0, 0, 0, 1).due(17, "steps", 20).due(200, "count", 3).due(47, "count", 0).due(0, "steps", 20).due(0, "steps", 1).due(47, "count", 0);
  }

  // ---- asking

  private static void dueWhat0To3(Talk x, String name) {
    x.due(OUTSIDE, name, 0, -1).due(OUTSIDE, name, 0, 4).due(OUTSIDE, name, 0, 5).due(OUTSIDE, name, 0, HIGHEST).due(OUTSIDE, name, 0, LOWEST);
  }

  private static void dueUnknown(Talk x, String name, int size) {
    x.due(UNKNOWN, name, size, 0).due(UNKNOWN, name, -1, 0).due(UNKNOWN, name, size, 3).due(UNKNOWN, name, HIGHEST, 0).due(UNKNOWN, name, LOWEST, 0);
  }

  private static void first() {
    Talk x = new Talk().due(OUTSIDE, "first", -1).due(OUTSIDE, "first", 4);
    for (int what = 0; what < 4; what++) x.due(NOT, "first", what);
    x.then("begin", -7, 8, 1, 9).dueBox("first", -7, 8, 1, 9);
    x.due(OUTSIDE, "first", -1).due(OUTSIDE, "first", 4).due(OUTSIDE, "first", HIGHEST).due(OUTSIDE, "first", LOWEST);
    x.due(0, "count", 3).due(1, "count", 0).then("put", 0, 0, 0, 1).due(0, "step").due(NOT, "first", 0);
  }

  private static void solved() {
    Talk x = Talk.told("f 3 1 0;f -1 0 0;g 3 0 1;g 1 0 0;box 0 64 -64 0");
    dueUnknown(x, "solved", 0);
    dueUnknown(x.due(3, "step").dueBox("solved", 0, 21, 22, -22, -21), "solved", 1);
    dueWhat0To3(x, "solved");
  }

  private static void doubtful() {
    Talk x = Talk.told("least 64;box -9 8 1 7");
    dueUnknown(x, "doubtful", 0);
    dueUnknown(x.due(5, "step").dueBox("doubtful", 0, -9, 8, 1, 7), "doubtful", 1);
    dueWhat0To3(x, "doubtful");
  }

  private static void entry() {
    Talk x = Talk.told("f 1 0 0;box -9 8 1 7");
    dueUnknown(x, "entry", 0);
    x.due(UNKNOWN, "entry", 0, 4).due(UNKNOWN, "entry", 0, 5);
    dueUnknown(x.due(0, "step").dueBox("entry", 0, -9, 8, 1, 7).due(0, "entry", 0, 4), "entry", 1);
    x.due(UNKNOWN, "entry", 1, 4).due(UNKNOWN, "entry", -1, 4).due(UNKNOWN, "entry", 1, 5).due(UNKNOWN, "entry", -1, 5);
    x.due(OUTSIDE, "entry", 0, 6).due(OUTSIDE, "entry", 0, -1).due(OUTSIDE, "entry", 0, HIGHEST).due(OUTSIDE, "entry", 0, LOWEST);
    // each verdict is told
    Talk y = Talk.busy();
    int[] verdicts = {5, 5, 0, 3, 5, 5, 5, 5};
    for (int k = 0; k < 8; k++) y.due(verdicts[k], "entry", k, 4);
    y.due(UNKNOWN, "entry", 8, 4).dueBox("entry", 7, 128, 192, 0, 64).dueBox("entry", 2, 256, 512, 0, 128);
    Talk.told("g 1 0 0;box 0 1 0 1").due(1, "step").due(1, "entry", 0, 4);
    Talk.told(LINES + ";box 0 60 1 70").due(2, "step").due(2, "entry", 0, 4);
    Talk.told(POINT + ";box 0 64 0 200").due(4, "step").due(4, "entry", 0, 4);
  }

  private static void entryNow() {
    Talk x = new Talk().then("begin", 0, 16, 0, 1).due(5, "step").due(5, "entry", 0, 5).then("put", 1, 0, 0, 1).due(1, "entry", 0, 5).due(5, "entry", 0, 4);
    x.then("put", 0, 0, 0, 1).due(0, "entry", 0, 5).then("put", 0, 0, 0, 0).then("put", 1, 0, 0, 0).due(5, "entry", 0, 5);
    // LEAST is not asked, what is held stays, and nothing is done
    x.then("hold", 1, 2, 3, 5).then("least", 64).due(5, "entry", 0, 5).due(1, "count", 3).due(2, "count", 0).due(0, "count", 2);
    x.then("put", 0, 1, 0, 1).due(1, "value", 0, 0).due(2, "value", 0, 1);
    // all that it can be
    Talk y = new Talk().then("begin", 0, 100, 0, 70).due(5, "step").say(POINT).due(4, "tell").due(3, "entry", 0, 5);
    y.then("put", 1, 0, 0, 0).due(4, "entry", 0, 5).then("put", 1, 0, 0, -20).due(1, "entry", 0, 5).then("put", 0, 0, 0, 20).due(0, "entry", 0, 5);
    new Talk().then("begin", 0, 60, 1, 70).due(5, "step").say(LINES).due(6, "tell").due(2, "entry", 0, 5).due(5, "entry", 0, 4);
  }

  private static void broken() {
    // 0 .. 16 has 5; 0 .. 8 and 8 .. 16 have 0, as f is 1 then
    Talk x = new Talk().then("begin", 0, 16, 0, 1).due(5, "step").then("put", 0, 0, 0, 1).due(2, "steps", 20);
    x.due(0, "broken").then("put", 0, 0, 0, 0).due(1, "broken");
    // 5 x - 1 is 0 at 12.8 alone
    x.then("put", 0, 0, 0, -1).then("put", 0, 1, 0, 5).due(2, "broken").due(0, "entry", 2, 4).due(5, "entry", 2, 5);
    x.then("put", 0, 1, 0, 20).due(1, "broken").then("put", 0, 0, 0, 0).then("put", 1, 0, 0, 1).due(0, "broken");
    x.due(3, "count", 3).due(0, "count", 0);
    // the 200th too: f is 1 over it
    Talk y = with200Entries(0).then("put", 0, 0, 0, 0).due(63, "broken");
    Sentences.must("entry 63 was made smaller", y.ask("entry", 63, 4) == 4);
  }

  private static void brokenNone() {
    Talk x = new Talk().due(NONE, "broken").then("begin", 0, 16, 0, 1).due(NONE, "broken").due(5, "step").due(NONE, "broken");
    x.then("least", 64).due(NONE, "broken").then("put", 0, 2, 0, 1).due(NONE, "broken").then("put", 0, 0, 0, 1).due(0, "broken");
    x.then("put", 0, 0, 0, 0).due(NONE, "broken");
    // for each verdict
    Talk.told("f 1 0 0;box 0 1 0 1").due(0, "step").due(NONE, "broken");
    Talk.told("g 1 0 0;box 0 1 0 1").due(1, "step").due(NONE, "broken");
    Talk.told(LINES + ";box 0 60 1 70").due(2, "step").due(NONE, "broken");
    Talk.told(POINT + ";box 0 200 0 200").due(3, "step").due(NONE, "broken");
    Talk.told(POINT + ";box 0 64 0 200").due(4, "step").due(5, "step").due(NONE, "broken").then("put", 1, 0, 0, 1).due(0, "broken");
    // a search that begins anew has no entries that could be broken
    Talk.told("f 1 0 0;box 0 1 0 1").due(0, "step").then("put", 0, 0, 0, 0).due(0, "broken").then("begin", 0, 1, 0, 1).due(NONE, "broken");
  }

  private static void find() {
    Talk x = Talk.busy();
    x.due(OUTSIDE, "find", 513, 0).due(OUTSIDE, "find", -513, 0).due(OUTSIDE, "find", 0, 513).due(OUTSIDE, "find", 0, -513);
    x.due(OUTSIDE, "find", HIGHEST, 0).due(OUTSIDE, "find", 0, LOWEST).due(8, "find", 512, 0).due(0, "find", -512, 0).due(0, "find", 0, 512).due(0, "find", 0, -512);
    x.due(1, "find", 200, 30).due(2, "find", 64, 64).due(4, "find", 150, 30).due(8, "find", 300, 30).due(0, "find", 30, 30);
    // together
    x.due(5, "find", 192, 30).due(5, "find", 150, 64).due(9, "find", 256, 30).due(5, "find", 192, 64);
    Talk y = new Talk().then("begin", 0, 8, 0, 8).due(4, "steps", 4).then("put", 0, 0, 0, 1).due(0, "step").due(1, "count", 2).due(2, "count", 0);
    y.due(13, "find", 4, 4).due(12, "find", 2, 4).due(9, "find", 4, 6).due(5, "find", 4, 2);
    // any of them, not the first alone
    y.due(1, "find", 6, 6).due(1, "find", 6, 2).due(0, "step").due(8, "find", 6, 2).due(8, "find", 2, 6).due(13, "find", 4, 4);
  }

  private static void findShown() {
    Talk.told("f 1 0 0;box 0 8 0 8").due(0, "step").due(8, "find", 4, 4);
    Talk.told("g 1 0 0;box 0 8 0 8").due(1, "step").due(8, "find", 4, 4);
    Talk.told(LINES + ";box 0 60 1 70").due(2, "step").due(8, "find", 30, 30);
    Talk.told(POINT + ";box 0 200 0 200").due(3, "step").due(0, "find", 30, 30);
    Talk.told(POINT + ";box 0 64 0 200").due(4, "step").due(0, "find", 30, 30).due(1, "find", 64, 64);
    new Talk().then("begin", 0, 8, 0, 8).due(5, "step").due(1, "find", 2, 2);
    new Talk().then("begin", 0, 4, 0, 4).due(5, "step").due(4, "find", 2, 2);
    // the verdict that it got, not the one that it would get now
    Talk.told("f 1 0 0;box 0 8 0 8").due(0, "step").then("put", 0, 0, 0, 0).due(8, "find", 4, 4);
    new Talk().then("begin", 0, 8, 0, 8).due(5, "step").then("put", 0, 0, 0, 1).due(1, "find", 4, 4);
  }

  private static void dueBorders(Talk x, int kind, int... box) {
    int a = box[0], b = box[1], c = box[2], d = box[3];
    x.due(kind, "find", a, c).due(kind, "find", a, d).due(kind, "find", b, c).due(kind, "find", b, d);
    x.due(0, "find", a - 1, c).due(0, "find", b + 1, d).due(0, "find", b, c - 1).due(0, "find", a, d + 1);
  }

  private static void findBorders() {
    dueBorders(Talk.told("box 10 20 30 50"), 1, 10, 20, 30, 50);
    dueBorders(Talk.told("f 3 1 0;f -1 0 0;g 3 0 1;g 1 0 0;box 0 64 -64 0").due(3, "step"), 2, 21, 22, -22, -21);
    dueBorders(Talk.told("least 64;box 10 20 30 50").due(5, "step"), 4, 10, 20, 30, 50);
    dueBorders(Talk.told("f 1 0 0;box 10 20 30 50").due(0, "step"), 8, 10, 20, 30, 50);
    // of no width
    dueBorders(Talk.told(POINT + ";box 0 64 0 200").due(4, "step"), 1, 64, 64, 64, 64);
    dueBorders(Talk.told(POINT + ";box 0 64 0 200").due(2, "steps", 2), 4, 64, 64, 64, 64);
  }
}
