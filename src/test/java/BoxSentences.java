/** The sentences on POLYNOMIALS, SPANS, BOXES, FENCES and VERDICTS, and promises 1 and 6 to 13, at their bounds. */
public final class BoxSentences {
  private static final int NONE = Talk.NONE, UNKNOWN = Talk.UNKNOWN, OUTSIDE = Talk.OUTSIDE, NOT = Talk.NOT;
  private static final int LOWEST = Integer.MIN_VALUE, HIGHEST = Integer.MAX_VALUE;

  /** x = 1 and y = 1: the FENCE of every BOX is this point. */
  private static final String POINT = "f 1 1 0;f -1 0 0;g 1 0 1;g -1 0 0";
  /** x + y = 1 and x + 2 y = 1: they meet at x 64, y 0. */
  private static final String LINES = "f 1 1 0;f 1 0 1;f -1 0 0;g 1 1 0;g 2 0 1;g -1 0 0";

  public static void main(String[] args) {
    Sentences.sentence("No TERMS, nothing OPEN.", BoxSentences::newObject);
    Sentences.sentence("NONE = -1000000001, UNKNOWN = -1000000002, OUTSIDE = -1000000003, NOT = -1000000004, FULL = -1000000005",
        BoxSentences::constants);
    polynomials();
    spans();
    boxes();
    verdicts();
    Sentences.end();
  }

  private static void polynomials() {
    Sentences.sentence("each has TERMS (none at first)", BoxSentences::noneAtFirst);
    Sentences.sentence("one at most at each PLACE (i, j)", BoxSentences::oneAtMost);
    Sentences.sentence("4, together 4 at most", BoxSentences::places);
    Sentences.sentence("a TERM has a whole number c, -20 .. 20, not 0", BoxSentences::factors);
    Sentences.sentence("comes to c times the i-th power of x times the j-th power of y", BoxSentences::comesTo);
    Sentences.sentence("A POLYNOMIAL has c (-20 .. 20; 0: none) at a PLACE, for that which was there: what it had (0: none).", BoxSentences::put);
    Sentences.sentence("THE SEARCH stays.", BoxSentences::searchStays);
    Sentences.sentence("What a POLYNOMIAL has at a PLACE (0: none). UNKNOWN; OUTSIDE.", BoxSentences::term);
    Sentences.sentence("What a POLYNOMIAL comes to at a point, x and y -512 .. 512", BoxSentences::signBounds);
    Sentences.sentence("1 above 0, 0, -1 below (just so, nothing put outward)", BoxSentences::signJustSo);
  }

  private static void spans() {
    Sentences.sentence("HIGH not less than LOW; all numbers between, and both, are in it.", BoxSentences::bothAreIn);
    Sentences.sentence("WIDTH: HIGH less LOW.", BoxSentences::width);
    Sentences.sentence("SUM of SPANS: both LOWS together, both HIGHS together.", BoxSentences::sum);
    Sentences.sentence("One LESS another: LOW less the other's HIGH, HIGH less the other's LOW.", BoxSentences::less);
    Sentences.sentence("TIMES a whole number: LOW and HIGH by it, the lesser of these first.", BoxSentences::times);
    Sentences.sentence("the least, the whole number that is not above it, and the greatest, the whole number that is not below it", BoxSentences::product);
    Sentences.sentence("QUOTIENT by a SPAN in which 0 is not: likewise of the four of 64 times an end of the one by an end of the other.",
        BoxSentences::quotient);
    Sentences.sentence("POWER 0 of a SPAN: 64, 64", BoxSentences::powerZero);
    Sentences.sentence("POWER k, above 0: PRODUCT of POWER k less 1 and the SPAN itself.", BoxSentences::power);
    Sentences.sentence("MIDDLE of a SPAN: the whole number that is not above half of LOW and HIGH together.", BoxSentences::middle);
  }

  private static void boxes() {
    Sentences.sentence("A BOX has a SPAN of x and a SPAN of y, between -512 and 512.", BoxSentences::boxBounds);
    Sentences.sentence("A BOX is HELD: x a to b, y c to d: its greater WIDTH.", BoxSentences::hold);
    Sentences.sentence("OUTSIDE (b below a, d below c, too).", BoxSentences::holdRefused);
    Sentences.sentence("the SUM of all (0, 0: no TERMS)", BoxSentences::noTerms);
    Sentences.sentence("of each TERM PRODUCT of POWER i of the SPAN of x and POWER j of that of y, TIMES c", BoxSentences::valueOfTerms);
    Sentences.sentence("VALUE of a POLYNOMIAL over the BOX that is HELD: LOW (what 0), HIGH (1). UNKNOWN; OUTSIDE; NOT: none is HELD.", BoxSentences::value);
    Sentences.sentence("SLOPE by x: of each TERM with i above 0 PRODUCT of POWER i less 1 and POWER j, TIMES c i", BoxSentences::slopeByX);
    Sentences.sentence("by y likewise with j and POWER j less 1", BoxSentences::slopeByY);
    Sentences.sentence("Its SLOPE by x (by 0), y (1): LOW (what 0), HIGH (1). UNKNOWN; OUTSIDE; NOT: none is HELD.", BoxSentences::slope);
    Sentences.sentence("f, g: VALUES of POLYNOMIALS 0, 1 over the BOX that is the MIDDLES alone", BoxSentences::atTheMiddles);
    Sentences.sentence("fx, fy, gx, gy: their SLOPES over the BOX", BoxSentences::slopesOverTheBox);
    Sentences.sentence("D: PRODUCT of fx and gy LESS PRODUCT of fy and gx.", BoxSentences::steepness);
    Sentences.sentence("If 0 is in D there is none.", BoxSentences::noFence);
    Sentences.sentence("Its SPAN of x: MIDDLE of x LESS QUOTIENT by D of (PRODUCT of gy and f LESS PRODUCT of fy and g)", BoxSentences::fenceOfX);
    Sentences.sentence("of y: MIDDLE of y LESS QUOTIENT by D of (PRODUCT of fx and g LESS PRODUCT of gx and f)", BoxSentences::fenceOfY);
    Sentences.sentence("LOW of x (what 0), HIGH (1), LOW of y (2), HIGH (3); LOW of D (4), HIGH (5), FENCE or none", BoxSentences::fence);
    Sentences.sentence("NONE: there is none (what 0 .. 3).", BoxSentences::fenceNone);
    Sentences.sentence("What is beyond -1000000000 or 1000000000 is told as that.", BoxSentences::beyond);
    Sentences.sentence("OUTSIDE; NOT: none is HELD.", BoxSentences::fenceRefused);
  }

  private static void verdicts() {
    Sentences.sentence("SHARED: what the BOX and its FENCE have in common, in x and in y.", BoxSentences::shared);
    Sentences.sentence("VERDICT of a BOX, the first that fits", BoxSentences::firstThatFits);
    Sentences.sentence("0: 0 is not in VALUE of POLYNOMIAL 0", BoxSentences::verdict0);
    Sentences.sentence("1: nor in that of 1", BoxSentences::verdict1);
    Sentences.sentence("2: there is a FENCE, and nothing is SHARED in x, or nothing in y", BoxSentences::verdict2);
    Sentences.sentence("3: there is a FENCE, and its LOWS are above the BOX's, its HIGHS below", BoxSentences::verdict3);
    Sentences.sentence("4: there is a FENCE, WIDTHS of the BOX are above 0 together", BoxSentences::verdict4NeedsWidth);
    Sentences.sentence("WIDTHS of what is SHARED, together, 4 times, are 3 times these or less; 5.", BoxSentences::verdict4ThreeQuarters);
    Sentences.sentence("VERDICT of the BOX that is HELD. NOT: none is HELD.", BoxSentences::verdict);
  }

  // ---- POLYNOMIALS

  private static void newObject() {
    Talk x = new Talk();
    for (int what = 0; what < 15; what++) x.due(what == 12 ? 4 : 0, "count", what);
    x.due(NOT, "first", 0).due(NOT, "step").due(0, "steps", 20).due(NOT, "verdict").due(NOT, "back", 0).due(NOT, "back", 1);
    x.due(NONE, "broken").due(0, "find", 0, 0).due(0, "fault").due(NOT, "tell").due(0, "erase");
    x.due(UNKNOWN, "solved", 0, 0).due(UNKNOWN, "doubtful", 0, 0).due(UNKNOWN, "entry", 0, 0);
    // one object has nothing of another
    Talk.busy();
    new Talk().due(0, "count", 10).due(0, "count", 0).due(NOT, "back", 0).due(NOT, "verdict").due(4, "least", 4);
  }

  /** Looked up in the class: written by their names they would be folded into the test. */
  private static void constants() {
    String[] names = {"NONE", "UNKNOWN", "OUTSIDE", "NOT", "FULL"};
    for (int k = 0; k < names.length; k++) {
      int got = 0;
      try {
        got = RootBoxes.class.getField(names[k]).getInt(null);
      } catch (ReflectiveOperationException e) {
        Sentences.wrong(names[k] + ": " + e);
      }
      Sentences.must(names[k] + " is " + got, got == -1000000001 - k);
    }
  }

  private static void noneAtFirst() {
    Talk x = new Talk().due(0, "count", 10).due(0, "count", 11);
    for (int p = 0; p < 2; p++) for (int i = 0; i <= 4; i++) for (int j = 0; i + j <= 4; j++) x.due(0, "term", p, i, j);
    x.due(0, "sign", 0, 3, 4).due(0, "sign", 1, -3, -4);
  }

  private static void oneAtMost() {
    Talk x = new Talk();
    x.due(0, "put", 0, 1, 2, 3).due(3, "put", 0, 1, 2, 4).due(1, "count", 10).due(4, "term", 0, 1, 2).due(0, "term", 0, 2, 1);
    x.due(4, "put", 0, 1, 2, 4).due(1, "count", 10);
    x.due(0, "put", 0, 2, 1, 5).due(2, "count", 10).due(4, "term", 0, 1, 2);
    x.due(0, "put", 1, 1, 2, 6).due(2, "count", 10).due(1, "count", 11).due(4, "term", 0, 1, 2);
    int terms = 0;
    Talk y = new Talk();
    for (int i = 0; i <= 4; i++) for (int j = 0; i + j <= 4; j++) y.due(0, "put", 1, i, j, 1 + i + 4 * j).due(++terms, "count", 11);
    for (int i = 0; i <= 4; i++) for (int j = 0; i + j <= 4; j++) y.due(1 + i + 4 * j, "term", 1, i, j);
    y.due(15, "count", 11).due(0, "count", 10);
  }

  private static void places() {
    Talk x = new Talk();
    for (int i = -2; i <= 6; i++) {
      for (int j = -2; j <= 6; j++) {
        boolean isPlace = i >= 0 && j >= 0 && i + j <= 4;
        x.due(isPlace ? 0 : OUTSIDE, "put", 0, i, j, 7).due(isPlace ? 7 : OUTSIDE, "term", 0, i, j).due(isPlace ? 0 : OUTSIDE, "term", 1, i, j);
      }
    }
    x.due(15, "count", 10).due(0, "count", 11);
    int[] far = {LOWEST, LOWEST + 1, -5, HIGHEST - 1, HIGHEST, 1 << 16};
    for (int i : far) {
      x.due(OUTSIDE, "put", 1, i, 0, 1).due(OUTSIDE, "put", 1, 0, i, 1).due(OUTSIDE, "term", 1, i, 0).due(OUTSIDE, "term", 1, 0, i);
      for (int j : far) x.due(OUTSIDE, "put", 1, i, j, 1).due(OUTSIDE, "term", 1, i, j);
    }
    x.due(0, "count", 11);
  }

  private static void factors() {
    Talk x = new Talk();
    for (int p = 0; p < 2; p++) {
      x.due(0, "put", p, 1, 1, 20).due(OUTSIDE, "put", p, 1, 1, 21).due(20, "term", p, 1, 1);
      x.due(20, "put", p, 1, 1, -20).due(OUTSIDE, "put", p, 1, 1, -21).due(-20, "term", p, 1, 1);
      x.due(OUTSIDE, "put", p, 1, 1, HIGHEST).due(OUTSIDE, "put", p, 1, 1, LOWEST).due(OUTSIDE, "put", p, 1, 1, 1 << 16).due(-20, "term", p, 1, 1);
      x.due(-20, "put", p, 1, 1, 1).due(1, "put", p, 1, 1, -1).due(1, "count", 10 + p).due(-1, "put", p, 1, 1, 0).due(0, "count", 10 + p);
    }
  }

  private static int power(int base, int exponent) {
    int product = 1;
    for (int k = 0; k < exponent; k++) product *= base;
    return product;
  }

  private static void comesTo() {
    for (int p = 0; p < 2; p++) {
      for (int i = 0; i <= 4; i++) {
        for (int j = 0; i + j <= 4; j++) {
          Talk x = new Talk().due(0, "put", p, i, j, -7).then("hold", 128, 128, 192, 192);
          int want = -7 * 64 * power(2, i) * power(3, j);
          x.due(want, "value", p, 0).due(want, "value", p, 1).due(-1, "sign", p, 128, 192);
          x.due(i % 2 == 0 ? -1 : 1, "sign", p, -128, 192).due(j % 2 == 0 ? -1 : 1, "sign", p, 128, -192);
          x.due(i > 0 ? 0 : -1, "sign", p, 0, 192).due(j > 0 ? 0 : -1, "sign", p, 128, 0);
        }
      }
    }
  }

  private static void put() {
    Talk x = new Talk().due(0, "put", 0, 0, 0, 5).due(5, "put", 0, 0, 0, -6).due(-6, "put", 0, 0, 0, 0).due(0, "put", 0, 0, 0, 0).due(0, "count", 10);
    x.due(0, "put", 1, 0, 4, 1).due(0, "put", 0, 0, 4, 2).due(1, "put", 1, 0, 4, 3);
    x.due(UNKNOWN, "put", -1, 0, 4, 4).due(UNKNOWN, "put", 2, 0, 4, 4).due(UNKNOWN, "put", HIGHEST, 0, 4, 4).due(UNKNOWN, "put", LOWEST, 0, 4, 4);
    x.due(2, "term", 0, 0, 4).due(3, "term", 1, 0, 4).due(1, "count", 10).due(1, "count", 11);
  }

  private static void searchStays() {
    Talk x = Talk.busy().due(1, "put", 0, 2, 0, 0).due(0, "put", 0, 0, 0, 9).due(-2, "put", 1, 0, 1, 0).due(0, "put", 1, 3, 1, 20);
    x.due(3, "count", 0).due(1, "count", 1).due(1, "count", 2).due(8, "count", 3).due(7, "count", 12);
    x.due(1, "count", 4).due(1, "count", 7).due(6, "count", 9).dueBox("first", 128, 192, 64, 128).dueBox("solved", 0, 64, 64, 64, 64);
    x.dueBox("doubtful", 0, 128, 192, 0, 64);
  }

  private static void term() {
    Talk x = Talk.told("f 5 0 0;f 6 4 0;g 7 0 4;g 8 1 3").due(5, "term", 0, 0, 0).due(6, "term", 0, 4, 0).due(7, "term", 1, 0, 4).due(8, "term", 1, 1, 3);
    x.due(0, "term", 1, 0, 0).due(0, "term", 1, 4, 0).due(0, "term", 0, 0, 4).due(0, "term", 0, 1, 3).due(0, "term", 1, 3, 1);
    x.due(UNKNOWN, "term", -1, 0, 0).due(UNKNOWN, "term", 2, 0, 0).due(OUTSIDE, "term", 0, 5, 0).due(OUTSIDE, "term", 0, 0, 5);
  }

  private static void signBounds() {
    Talk x = Talk.told("f 1 1 0;f -1 0 1;g 1 1 1");
    for (int p = 0; p < 2; p++) {
      x.due(p == 0 ? 1 : -1, "sign", p, 512, -512).due(-1, "sign", p, -512, 512);
      x.due(OUTSIDE, "sign", p, 513, 0).due(OUTSIDE, "sign", p, -513, 0).due(OUTSIDE, "sign", p, 0, 513).due(OUTSIDE, "sign", p, 0, -513);
      x.due(OUTSIDE, "sign", p, HIGHEST, 0).due(OUTSIDE, "sign", p, 0, LOWEST).due(OUTSIDE, "sign", p, 513, -513);
    }
    x.due(UNKNOWN, "sign", 2, 0, 0).due(UNKNOWN, "sign", -1, 0, 0);
    // it needs no box that is held, and holds none
    x.due(NOT, "verdict");
  }

  private static void signJustSo() {
    // a power of 1/64 is above 0, though its span has 0 in it
    Talk x = Talk.told("f 1 4 0;g -1 2 2");
    x.due(1, "sign", 0, 1, 0).due(1, "sign", 0, -1, 0).due(0, "sign", 0, 0, 0).due(-1, "sign", 1, 1, 1).due(-1, "sign", 1, -1, 1).due(0, "sign", 1, 1, 0);
    x.then("hold", 1, 1, 1, 1).due(0, "value", 0, 0).due(0, "value", 1, 1);
    // x x x = y: the terms are just alike at 16 and 1, and at no neighbour
    Talk y = Talk.told("f 1 3 0;f -1 0 1").due(0, "sign", 0, 16, 1).due(1, "sign", 0, 17, 1).due(-1, "sign", 0, 15, 1).due(0, "sign", 0, -16, -1);
    y.due(-1, "sign", 0, -17, -1).due(0, "sign", 0, 64, 64).due(0, "sign", 0, 128, 512).due(1, "sign", 0, 128, 511);
    // 20 times x^4 less y^4, and 1: far beyond an int, and 1 more
    Talk z = Talk.told("f 20 4 0;f -20 0 4;f 1 0 0;g 20 4 0;g -20 0 4");
    z.due(1, "sign", 0, 512, 512).due(-1, "sign", 0, 511, 512).due(1, "sign", 0, 512, 511).due(0, "sign", 1, 512, -512).due(-1, "sign", 1, -511, 512);
    // all terms at their greatest
    Talk all = new Talk();
    for (int i = 0; i <= 4; i++) for (int j = 0; i + j <= 4; j++) all.then("put", 0, i, j, 20).then("put", 1, i, j, -20);
    all.due(1, "sign", 0, 512, 512).due(-1, "sign", 1, 512, 512).due(1, "sign", 0, -512, -512);
  }

  // ---- SPANS

  private static void bothAreIn() {
    // 0 as LOW, as HIGH of VALUE
    Talk x = Talk.told("f 1 1 0;f -1 0 0").then("hold", 64, 70, 0, 0).due(0, "value", 0, 0).due(5, "verdict").then("hold", 65, 70, 0, 0).due(0, "verdict");
    x.then("hold", 60, 64, 0, 0).due(0, "value", 0, 1).due(5, "verdict").then("hold", 60, 63, 0, 0).due(0, "verdict");
    x.then("hold", 63, 65, 0, 0).due(5, "verdict").then("hold", 64, 64, 0, 0).due(5, "verdict");
    // 0 as LOW, as HIGH of D
    Talk y = Talk.told("f 1 2 0;g 1 0 1").then("hold", 0, 9, 0, 1).due(0, "fence", 4).due(NONE, "fence", 0).then("hold", -9, 0, 0, 1);
    y.due(0, "fence", 5).due(NONE, "fence", 0);
    // LOW and HIGH alike
    new Talk().due(0, "hold", 5, 5, -5, -5).due(OUTSIDE, "hold", 5, 4, -5, -5).due(OUTSIDE, "hold", 5, 5, -5, -6);
    // borders are in a box
    new Talk().then("begin", 1, 3, 5, 7).due(1, "find", 1, 5).due(1, "find", 3, 7).due(1, "find", 2, 6).due(0, "find", 0, 5).due(0, "find", 4, 7);
  }

  private static void width() {
    new Talk().due(0, "hold", 9, 9, 9, 9).due(1, "hold", 9, 10, 9, 9).due(1, "hold", 9, 9, 9, 10).due(3, "hold", -1, 2, 0, 2).due(3, "hold", 0, 2, -1, 2);
    new Talk().due(1024, "hold", -512, 512, 0, 0).due(1024, "hold", 0, 0, -512, 512).due(512, "hold", -512, 0, 0, 3).due(2, "hold", -5, -3, -8, -7);
  }

  private static Talk dueValue(Talk x, int low, int high) { return x.due(low, "value", 0, 0).due(high, "value", 0, 1); }

  private static void sum() {
    Talk x = Talk.told("f 1 1 0;f 1 0 1;f 1 0 0");
    dueValue(x.then("hold", 1, 2, 10, 30), 64 + 11, 64 + 32);
    dueValue(x.then("hold", -5, 2, -7, 30), 64 - 12, 64 + 32);
    // two that are put outward are so each by itself
    dueValue(Talk.told("f 1 2 0;f 1 0 2").then("hold", 1, 1, 1, 1), 0, 2);
    dueValue(Talk.told("f 1 2 0;f -1 0 2").then("hold", 1, 1, 1, 1), -1, 1);
  }

  private static void less() {
    // fx 2 x, gy -2 y: -1536 .. -256; fy 2 y, gx 2 x: 256 .. 1536
    Talk.told("f 1 2 0;f 1 0 2;g 1 2 0;g -1 0 2").then("hold", 64, 128, 64, 192).due(-3072, "fence", 4).due(-512, "fence", 5);
    // 128 .. 384 less 64 .. 128, and the other way round
    Talk.told("f 1 1 0;f 1 0 1;g 1 2 0;g 1 0 2").then("hold", 32, 64, 64, 192).due(128 - 128, "fence", 4).due(384 - 64, "fence", 5);
    Talk.told("f 1 2 0;f 1 0 2;g 1 1 0;g 1 0 1").then("hold", 32, 64, 64, 192).due(64 - 384, "fence", 4).due(128 - 128, "fence", 5);
  }

  private static void times() {
    dueValue(Talk.told("f -3 1 0").then("hold", 1, 2, 0, 0), -6, -3);
    dueValue(Talk.told("f 3 1 0").then("hold", 1, 2, 0, 0), 3, 6);
    dueValue(Talk.told("f -3 1 0").then("hold", -2, -1, 0, 0), 3, 6);
    dueValue(Talk.told("f -20 1 0").then("hold", -2, 1, 0, 0), -20, 40);
    // it comes behind the product: what was put outward is taken 3 times
    dueValue(Talk.told("f 3 2 0").then("hold", 1, 1, 0, 0), 0, 3);
    dueValue(Talk.told("f -3 2 0").then("hold", 1, 1, 0, 0), -3, 0);
  }

  private static void dueProduct(int a, int b, int c, int d, int low, int high) {
    dueValue(Talk.told("f 1 1 1").then("hold", a, b, c, d), low, high);
  }

  private static void product() {
    dueProduct(1, 1, 1, 1, 0, 1);
    dueProduct(-1, -1, 1, 1, -1, 0);
    dueProduct(1, 1, -1, -1, -1, 0);
    dueProduct(-1, -1, -1, -1, 0, 1);
    // just so: nothing is put outward
    dueProduct(8, 8, 8, 8, 1, 1);
    dueProduct(-8, -8, 8, 8, -1, -1);
    dueProduct(0, 0, -512, 512, 0, 0);
    dueProduct(7, 7, 9, 9, 0, 1);
    dueProduct(5, 5, 13, 13, 1, 2);
    dueProduct(-5, -5, 13, 13, -2, -1);
    // each of the four can be the least or the greatest
    dueProduct(30, 40, 30, 40, 14, 25);
    dueProduct(-40, -30, 30, 40, -25, -14);
    dueProduct(30, 40, -40, -30, -25, -14);
    dueProduct(-40, -30, -40, -30, 14, 25);
    dueProduct(-40, 30, -20, 50, -32, 24);
    dueProduct(-30, 40, -50, 20, -32, 24);
    dueProduct(-30, 40, -20, 50, -24, 32);
    dueProduct(-40, 30, -50, 20, -24, 32);
    dueProduct(-512, 512, -512, 512, -4096, 4096);
    dueProduct(-511, 512, -512, 511, -4096, 4088);
  }

  private static void dueFence(String polynomials, int[] box, int a, int b, int c, int d) {
    Talk.told(polynomials).then("hold", box).dueBox("fence", a, b, c, d);
  }

  private static void quotient() {
    int[] right = {0, 64, -5, 5}, left = {-64, 0, -5, 5};
    // a third of 64: put outward, whichever of both is below 0
    dueFence("f 3 1 0;f -1 0 0;g 1 0 1", right, 21, 22, 0, 0);
    dueFence("f -3 1 0;f 1 0 0;g 1 0 1", right, 21, 22, 0, 0);
    dueFence("f 3 1 0;f 1 0 0;g 1 0 1", left, -22, -21, 0, 0);
    dueFence("f -3 1 0;f -1 0 0;g 1 0 1", left, -22, -21, 0, 0);
    // a half: just so
    dueFence("f 2 1 0;f -1 0 0;g 1 0 1", right, 32, 32, 0, 0);
    dueFence("f -2 1 0;f -1 0 0;g 1 0 1", left, -32, -32, 0, 0);
    // 3 .. 4 by 20 .. 40: 4.8 .. 12.8, from 15
    dueFence("f 1 2 0;g 1 0 1", new int[] {10, 20, 0, 0}, 2, 11, 0, 0);
    dueFence("f 1 2 0;g -1 0 1", new int[] {10, 20, 0, 0}, 2, 11, 0, 0);
    // from -15: -12.8 .. -4.8
    dueFence("f 1 2 0;g 1 0 1", new int[] {-20, -10, 0, 0}, -11, -2, 0, 0);
    // -61 .. -60 by 20 .. 40: -195.2 .. -96
    dueFence("f 1 2 0;f -1 0 0;g 1 0 1", new int[] {10, 20, 0, 0}, 111, 211, 0, 0);
    dueFence("f -1 2 0;f 1 0 0;g 1 0 1", new int[] {10, 20, 0, 0}, 111, 211, 0, 0);
    // -4 .. 1 by 6 .. 18: both ends by 6
    dueFence("f 4 3 0;f -1 2 0;g 1 0 1", new int[] {15, 15, 0, 0}, 4, 58, 0, 0);
    dueFence("f 4 3 0;f -1 2 0;g -1 0 1", new int[] {15, 15, 0, 0}, 4, 58, 0, 0);
    dueFence("f 1 1 0;g 4 0 3;g -1 0 2", new int[] {0, 0, 15, 15}, 0, 0, 4, 58);
  }

  private static void powerZero() {
    Talk x = Talk.told("f 1 0 0");
    dueValue(x.then("hold", -512, 512, -512, 512), 64, 64);
    dueValue(x.then("hold", 0, 0, 0, 0), 64, 64);
    dueValue(x.then("hold", 3, 9, -7, -2), 64, 64);
    // of 0 too: x to the 1st has slope 1 where x is 0
    Talk.told("f 1 1 0").then("hold", 0, 0, 0, 0).due(64, "slope", 0, 0, 0).due(64, "slope", 0, 0, 1);
  }

  private static void duePower(int i, int j, int a, int b, int low, int high) {
    dueValue(Talk.told("f 1 " + i + " " + j).then("hold", a, b, a, b), low, high);
  }

  private static void power() {
    int[][] of30 = {{30, 30}, {14, 15}, {6, 8}, {2, 4}};
    for (int k = 1; k <= 4; k++) {
      duePower(k, 0, 30, 30, of30[k - 1][0], of30[k - 1][1]);
      duePower(0, k, 30, 30, of30[k - 1][0], of30[k - 1][1]);
    }
    duePower(3, 0, -30, -30, -8, -6);
    duePower(4, 0, -30, -30, 2, 4);
    // no square: LOW goes below 0
    duePower(2, 0, -64, 64, -64, 64);
    duePower(0, 2, -64, 64, -64, 64);
    duePower(4, 0, -64, 64, -64, 64);
    duePower(2, 0, -128, 64, -128, 256);
    duePower(3, 0, -128, 64, -512, 256);
    duePower(0, 3, -128, 64, -512, 256);
    duePower(4, 0, -512, 512, -262144, 262144);
    duePower(0, 4, 512, 512, 262144, 262144);
  }

  private static void duePartedAt(int low, int high, int middle) {
    int width = Math.max(middle - low, high - middle);
    boolean lower = middle - low == width;
    int a = lower ? low : middle, b = lower ? middle : high;
    new Talk().then("begin", low, high, 0, 1).due(5, "step").dueBox("first", a, b, 0, 1);
    new Talk().then("begin", 0, 1, low, high).due(5, "step").dueBox("first", 0, 1, a, b);
  }

  private static void middle() {
    duePartedAt(0, 6, 3);
    duePartedAt(0, 5, 2);
    duePartedAt(-5, 0, -3);
    duePartedAt(-5, 6, 0);
    duePartedAt(-6, 5, -1);
    duePartedAt(-12, -5, -9);
    duePartedAt(5, 12, 8);
    duePartedAt(505, 512, 508);
    duePartedAt(-512, -505, -509);
    // of the fence: -8 and -1 have -5, 0 .. 1 by -16 .. -2 from there
    dueFence("f 1 2 0;g 1 0 1", new int[] {-8, -1, 0, 0}, -5, 27, 0, 0);
    dueFence("f 1 1 0;g 1 0 2", new int[] {0, 0, -8, -1}, 0, 0, -5, 27);
  }

  // ---- BOXES

  private static void boxBounds() {
    Talk x = new Talk();
    x.due(1024, "hold", -512, 512, -512, 512).due(0, "hold", 512, 512, -512, -512).due(0, "hold", -512, -512, 512, 512);
    x.due(OUTSIDE, "hold", -513, 512, -512, 512).due(OUTSIDE, "hold", -512, 513, -512, 512);
    x.due(OUTSIDE, "hold", -512, 512, -513, 512).due(OUTSIDE, "hold", -512, 512, -512, 513);
    x.due(OUTSIDE, "hold", 513, 513, 0, 0).due(OUTSIDE, "hold", -513, -513, 0, 0).due(OUTSIDE, "hold", 0, 0, 513, 513).due(OUTSIDE, "hold", 0, 0, -513, -513);
    x.due(1024, "begin", -512, 512, -512, 512).due(1, "begin", 511, 512, -512, -511).due(1, "begin", -512, -511, 511, 512);
    x.due(OUTSIDE, "begin", -513, 512, -512, 512).due(OUTSIDE, "begin", -512, 513, -512, 512);
    x.due(OUTSIDE, "begin", -512, 512, -513, 512).due(OUTSIDE, "begin", -512, 512, -512, 513);
    x.due(OUTSIDE, "begin", 512, 513, 0, 1).due(OUTSIDE, "begin", -513, -512, 0, 1).due(OUTSIDE, "begin", 0, 1, 512, 513).due(OUTSIDE, "begin", 0, 1, -513, -512);
    for (int far : new int[] {LOWEST, HIGHEST}) {
      x.due(OUTSIDE, "hold", far, far, 0, 0).due(OUTSIDE, "hold", 0, 0, far, far).due(OUTSIDE, "begin", far, 0, 0, 1).due(OUTSIDE, "begin", 0, far, 0, 1);
    }
    x.due(OUTSIDE, "hold", LOWEST, HIGHEST, LOWEST, HIGHEST).due(OUTSIDE, "begin", LOWEST, HIGHEST, LOWEST, HIGHEST);
  }

  private static void hold() {
    Talk x = Talk.told("f 1 1 0;g 1 0 1").due(9, "hold", -5, 4, 6, 7);
    x.due(-5, "value", 0, 0).due(4, "value", 0, 1).due(6, "value", 1, 0).due(7, "value", 1, 1);
    x.due(6, "hold", 1, 2, 3, 9).due(1, "hold", 1, 2, 3, 3).due(1, "value", 0, 0).due(2, "value", 0, 1).due(3, "value", 1, 0).due(3, "value", 1, 1);
    x.due(0, "count", 0).due(0, "count", 3);
  }

  private static void holdRefused() {
    Talk x = Talk.told("f 1 1 0;g 1 0 1").then("hold", 1, 2, 3, 5);
    x.due(OUTSIDE, "hold", 7, 6, 0, 1).due(OUTSIDE, "hold", 0, 1, 7, 6).due(OUTSIDE, "hold", 1, -1, 1, -1).due(OUTSIDE, "hold", 512, -512, 0, 1);
    x.due(1, "value", 0, 0).due(2, "value", 0, 1).due(3, "value", 1, 0).due(5, "value", 1, 1);
    x.due(0, "hold", 7, 7, 8, 8).due(1, "hold", 7, 8, 8, 8).due(1, "hold", 7, 7, 8, 9);
    new Talk().due(OUTSIDE, "hold", 7, 6, 0, 1).due(NOT, "verdict");
  }

  private static void noTerms() {
    Talk x = new Talk().then("hold", -512, 512, -512, 512);
    for (int p = 0; p < 2; p++) {
      for (int what = 0; what < 2; what++) x.due(0, "value", p, what).due(0, "slope", p, 0, what).due(0, "slope", p, 1, what);
    }
    x.due(0, "put", 0, 1, 0, 5).due(5, "put", 0, 1, 0, 0).due(0, "value", 0, 0).due(0, "value", 0, 1).due(5, "verdict");
  }

  private static void valueOfTerms() {
    // the product of both powers, not one power behind the other: 14 .. 15 by 14 .. 15
    duePower(2, 2, 30, 30, 3, 4);
    duePower(3, 1, 30, 30, 2, 4);
    duePower(1, 3, 30, 30, 2, 4);
    duePower(2, 1, 30, 30, 6, 8);
    duePower(1, 2, 30, 30, 6, 8);
    // x is of i, y of j
    Talk x = Talk.told("f 1 2 1").then("hold", 64, 128, 192, 256);
    dueValue(x, 192, 1024);
    dueValue(Talk.told("f 1 1 2").then("hold", 64, 128, 192, 256), 576, 2048);
    dueValue(Talk.told("f -2 1 2;f 3 2 1").then("hold", 64, 128, 192, 256), -2 * 2048 + 3 * 192, -2 * 576 + 3 * 1024);
    // the greatest there is: all places, all at 512
    Talk all = new Talk();
    int sum = 0;
    for (int i = 0; i <= 4; i++) {
      for (int j = 0; i + j <= 4; j++) {
        all.then("put", 0, i, j, 20).then("put", 1, i, j, -20);
        sum += 20 * 64 * power(8, i + j);
      }
    }
    dueValue(all.then("hold", 512, 512, 512, 512), sum, sum).due(-sum, "value", 1, 0);
    dueValue(all.then("hold", -512, 512, -512, 512), -sum + 2 * 20 * 64, sum);
  }

  private static void value() {
    Talk x = Talk.told("f 1 1 0;g 1 0 1").due(NOT, "value", 0, 0).due(NOT, "value", 1, 1).due(OUTSIDE, "value", 0, 2).due(OUTSIDE, "value", 1, -1);
    x.due(UNKNOWN, "value", 2, 0).due(UNKNOWN, "value", -1, 0).then("hold", 1, 2, 3, 5);
    x.due(1, "value", 0, 0).due(2, "value", 0, 1).due(3, "value", 1, 0).due(5, "value", 1, 1);
    x.due(OUTSIDE, "value", 0, 2).due(OUTSIDE, "value", 0, -1).due(OUTSIDE, "value", 1, HIGHEST).due(OUTSIDE, "value", 1, LOWEST);
    x.due(UNKNOWN, "value", 2, 0).due(UNKNOWN, "value", -1, 1).due(UNKNOWN, "value", HIGHEST, 1);
    // over the box that is held, of the polynomial as it is now
    x.then("put", 0, 1, 0, -2).due(-4, "value", 0, 0).due(-2, "value", 0, 1);
  }

  private static Talk dueSlope(Talk x, int by, int low, int high) { return x.due(low, "slope", 0, by, 0).due(high, "slope", 0, by, 1); }

  private static void slopeByX() {
    for (int i = 0; i <= 4; i++) {
      for (int j = 0; i + j <= 4; j++) {
        Talk x = new Talk().then("put", 0, i, j, -20).then("hold", 128, 128, 192, 192);
        int want = i == 0 ? 0 : -20 * i * 64 * power(2, i - 1) * power(3, j);
        dueSlope(x, 0, want, want);
      }
    }
    // 6 times what was put outward
    dueSlope(Talk.told("f 2 3 0").then("hold", 1, 1, 0, 0), 0, 0, 6);
    dueSlope(Talk.told("f -2 3 0").then("hold", 1, 1, 0, 0), 0, -6, 0);
    // 30 by 14 .. 15, twice
    dueSlope(Talk.told("f 1 2 2").then("hold", 30, 30, 30, 30), 0, 12, 16);
    dueSlope(Talk.told("f 1 1 3").then("hold", 30, 30, 30, 30), 0, 6, 8);
    dueSlope(Talk.told("f 1 2 0;f 5 0 1;f 5 0 0").then("hold", -1, 2, 0, 0), 0, -2, 4);
  }

  private static void slopeByY() {
    for (int i = 0; i <= 4; i++) {
      for (int j = 0; i + j <= 4; j++) {
        Talk x = new Talk().then("put", 0, i, j, -20).then("hold", 128, 128, 192, 192);
        int want = j == 0 ? 0 : -20 * j * 64 * power(2, i) * power(3, j - 1);
        dueSlope(x, 1, want, want);
      }
    }
    dueSlope(Talk.told("f 2 0 3").then("hold", 0, 0, 1, 1), 1, 0, 6);
    dueSlope(Talk.told("f -2 0 3").then("hold", 0, 0, 1, 1), 1, -6, 0);
    dueSlope(Talk.told("f 1 2 2").then("hold", 30, 30, 30, 30), 1, 12, 16);
    dueSlope(Talk.told("f 1 3 1").then("hold", 30, 30, 30, 30), 1, 6, 8);
    dueSlope(Talk.told("f 1 0 2;f 5 1 0;f 5 0 0").then("hold", 0, 0, -1, 2), 1, -2, 4);
  }

  private static void slope() {
    Talk x = Talk.told("f 1 1 0;f 2 0 1;g 3 1 0;g 4 0 2").due(NOT, "slope", 0, 0, 0).due(NOT, "slope", 1, 1, 1);
    x.due(OUTSIDE, "slope", 0, 2, 0).due(OUTSIDE, "slope", 0, 0, 2).due(UNKNOWN, "slope", 2, 0, 0).then("hold", 0, 0, 8, 16);
    x.due(64, "slope", 0, 0, 0).due(64, "slope", 0, 0, 1).due(128, "slope", 0, 1, 0).due(128, "slope", 0, 1, 1);
    x.due(192, "slope", 1, 0, 0).due(192, "slope", 1, 0, 1).due(64, "slope", 1, 1, 0).due(128, "slope", 1, 1, 1);
    x.due(OUTSIDE, "slope", 0, 2, 0).due(OUTSIDE, "slope", 0, -1, 0).due(OUTSIDE, "slope", 1, 0, 2).due(OUTSIDE, "slope", 1, 1, -1);
    x.due(OUTSIDE, "slope", 0, HIGHEST, 0).due(OUTSIDE, "slope", 0, 0, LOWEST).due(UNKNOWN, "slope", -1, 0, 0).due(UNKNOWN, "slope", 2, 1, 1);
  }

  private static void atTheMiddles() {
    // f 225/64 at 15 alone, though over the box it is 1 .. 7; D is of the box
    Talk.told("f 1 2 0;g 1 0 1").then("hold", 10, 20, 0, 0).due(1, "value", 0, 0).due(7, "value", 0, 1).due(20, "fence", 4).due(40, "fence", 5)
        .due(2, "fence", 0).due(11, "fence", 1);
    Talk.told("f 1 1 0;g 1 0 2").then("hold", 0, 0, 10, 20).due(2, "fence", 2).due(11, "fence", 3);
    // each has its own middle
    Talk.told("f 1 1 0;f 1 0 1;g 1 0 1").then("hold", -100, 100, 20, 40).dueBox("fence", 0, 0, 0, 0);
    Talk.told("f 1 1 0;f -1 0 0;g 1 0 1;g -2 0 0").then("hold", -300, 500, -10, 10).dueBox("fence", 64, 64, 128, 128);
  }

  private static void slopesOverTheBox() {
    // each of the four by itself is 20 .. 40, where it would be 30 at the middles; the others are 64 or 0
    int[] box = {10, 20, 10, 20};
    Talk.told("f 1 2 0;g 1 0 1").then("hold", box).due(20, "fence", 4).due(40, "fence", 5);
    Talk.told("f 1 1 0;g 1 0 2").then("hold", box).due(20, "fence", 4).due(40, "fence", 5);
    Talk.told("f 1 0 2;g 1 1 0").then("hold", box).due(-40, "fence", 4).due(-20, "fence", 5);
    Talk.told("f 1 0 1;g 1 2 0").then("hold", box).due(-40, "fence", 4).due(-20, "fence", 5);
    // 0 is in D by a border alone, though not at the middles
    Talk.told("f 1 2 0;g 1 0 1").then("hold", 0, 100, 0, 100).due(NONE, "fence", 0).due(0, "fence", 4).due(200, "fence", 5);
  }

  private static void steepness() {
    // 3 by 5, 2 by -7: each by its own
    Talk.told("f 3 1 0;f 2 0 1;g -7 1 0;g 5 0 1").then("hold", 0, 1, 0, 1).due(64 * 29, "fence", 4).due(64 * 29, "fence", 5);
    Talk.told("f 3 1 0;g 5 0 1").then("hold", 0, 1, 0, 1).due(64 * 15, "fence", 4);
    Talk.told("f 2 0 1;g -7 1 0").then("hold", 0, 1, 0, 1).due(64 * 14, "fence", 5);
    Talk.told("f 2 0 1;g 7 1 0").then("hold", 0, 1, 0, 1).due(-64 * 14, "fence", 5);
    // a product that is put outward: 2 by 2 and by 64
    Talk.told("f 1 2 0;g 1 0 2").then("hold", 1, 1, 1, 1).due(0, "fence", 4).due(1, "fence", 5).due(NONE, "fence", 0);
  }

  private static void noFence() {
    Talk x = Talk.told("f 1 2 0;g 1 0 1");
    x.then("hold", 0, 9, 0, 0).due(NONE, "fence", 0).then("hold", 1, 9, 0, 0).due(2, "fence", 4).due(-27, "fence", 0);
    x.then("hold", -9, 0, 0, 0).due(NONE, "fence", 0).then("hold", -9, -1, 0, 0).due(-2, "fence", 5).due(27, "fence", 1);
    x.then("hold", -1, 1, 0, 0).due(NONE, "fence", 0).then("hold", 0, 0, 0, 0).due(NONE, "fence", 0);
    // then a box is neither made smaller nor shown to have one
    x.then("hold", -100, 100, -100, 100).due(5, "verdict");
    new Talk().then("hold", 0, 1, 0, 1).due(NONE, "fence", 0).due(5, "verdict");
  }

  /** A system with all slopes and both values not 0; its f and g, x and y can change places. */
  private static final String FULL_SYSTEM = "f 1 2 0;f 1 1 1;f -3 0 0;g 1 0 2;g -2 1 0;g 1 0 0";
  private static final String MIRRORED = "g 1 0 2;g 1 1 1;g -3 0 0;f 1 2 0;f -2 0 1;f 1 0 0";

  private static void fenceOfX() {
    // f -70, g 42 at 50, 50; gy f 280, fy g 84, D -896: 50 and 14
    dueFence("f 3 1 0;f 2 0 1;f -5 0 0;g 1 1 0;g -4 0 1;g 3 0 0", new int[] {0, 100, 0, 100}, 64, 64, 64, 64);
    // middle 80, 128: f 68, g 160; fx 224 .. 352, fy 64 .. 96, gx -128, gy 192 .. 320, D 800 .. 1952
    // gy f 204 .. 340, fy g 160 .. 240: -36 .. 180, by D -2.88 .. 14.4
    Talk.told(FULL_SYSTEM).then("hold", 64, 96, 96, 160).due(800, "fence", 4).due(1952, "fence", 5).due(65, "fence", 0).due(83, "fence", 1);
    Talk.told(FULL_SYSTEM).then("hold", 70, 75, 100, 103).due(77, "fence", 0).due(79, "fence", 1);
    Talk.told(MIRRORED).then("hold", 96, 160, 64, 96).due(46, "fence", 0).due(106, "fence", 1);
  }

  private static void fenceOfY() {
    // fx g 560 .. 880, gx f -136: 696 .. 1016, by D 22.8 .. 81.28, from 128
    Talk.told(FULL_SYSTEM).then("hold", 64, 96, 96, 160).due(46, "fence", 2).due(106, "fence", 3);
    Talk.told(FULL_SYSTEM).then("hold", 70, 75, 100, 103).due(77, "fence", 2).due(82, "fence", 3);
    Talk.told(MIRRORED).then("hold", 96, 160, 64, 96).due(65, "fence", 2).due(83, "fence", 3);
  }

  private static void fence() {
    Talk x = Talk.told(FULL_SYSTEM).then("hold", 64, 96, 96, 160).dueBox("fence", 65, 83, 46, 106).due(800, "fence", 4).due(1952, "fence", 5);
    // D also where there is none
    Talk.told("f 1 2 0;g 1 0 1").then("hold", -3, 9, 0, 1).due(NONE, "fence", 0).due(-6, "fence", 4).due(18, "fence", 5);
    // of the polynomials as they are now
    x.then("put", 1, 1, 0, 0).due(672, "fence", 4).due(1760, "fence", 5);
    // it need not lie in the box
    dueFence(POINT, new int[] {-500, -400, 300, 301}, 64, 64, 64, 64);
    dueFence("f 1 1 0;f -20 0 0;g 1 0 1;g 20 0 0", new int[] {0, 1, 0, 1}, 1280, 1280, -1280, -1280);
  }

  private static void fenceNone() {
    Talk x = Talk.told("f 1 2 0;g 1 0 1").then("hold", -3, 9, 0, 1);
    for (int what = 0; what < 4; what++) x.due(NONE, "fence", what);
    x.due(-6, "fence", 4).due(18, "fence", 5);
    Talk y = new Talk().then("hold", 0, 0, 0, 0);
    for (int what = 0; what < 6; what++) y.due(what < 4 ? NONE : 0, "fence", what);
  }

  private static void dueSteepness(String more, int want) {
    String x3125 = "f 5 1 0;f 7 2 0;f 5 3 0;f 1 4 0;", y5000 = "g 8 0 1;g 8 0 2;g 4 0 3;g 2 0 4";
    Talk.told(x3125 + y5000 + more).then("hold", 512, 512, 512, 512).due(want, "fence", 4).due(want, "fence", 5);
    String below = y5000.replace("g ", "g -");
    String other = more.replace("g ", "g -").replace("--", "");
    Talk.told(x3125 + below + other).then("hold", 512, 512, 512, 512).due(-want, "fence", 4).due(-want, "fence", 5);
  }

  private static void beyond() {
    // 64 times 3125 by 5000 is a thousand million, just so
    dueSteepness("", 1000000000);
    dueSteepness(";f 1 0 1;g 1 1 0", 999999936);
    dueSteepness(";f 1 0 1;g -1 1 0", 1000000000);
    Talk far = Talk.told("f 20 4 0;g 20 0 4").then("hold", -512, 512, 512, 512).due(-1000000000, "fence", 4).due(1000000000, "fence", 5);
    far.due(NONE, "fence", 0).then("hold", 256, 512, 512, 512).due(1000000000, "fence", 4).due(1000000000, "fence", 5);
    Sentences.must("there is a fence all the same", far.ask("fence", 0) != NONE);
    // D is 1: the fence itself goes beyond, of x, of y, above, below
    dueFence("f 20 0 4;f 20 0 3;f 20 0 2;f 20 0 1;f 20 0 0;f 11 3 0;f -2 2 0;g 1 0 1;g 20 0 0", new int[] {8, 8, 512, 512},
        1000000000, 1000000000, -1280, -1280);
    dueFence("f 20 0 4;f 20 0 3;f 20 0 2;f 20 0 1;f 20 0 0;f -11 3 0;f -2 2 0;g 1 0 1;g 20 0 0", new int[] {-8, -8, 512, 512},
        -1000000000, -1000000000, -1280, -1280);
    dueFence("g 20 4 0;g 20 3 0;g 20 2 0;g 20 1 0;g 20 0 0;g 11 0 3;g -2 0 2;f 1 1 0;f 20 0 0", new int[] {512, 512, 8, 8},
        -1280, -1280, 1000000000, 1000000000);
    dueFence("g 20 4 0;g 20 3 0;g 20 2 0;g 20 1 0;g 20 0 0;g -11 0 3;g -2 0 2;f 1 1 0;f 20 0 0", new int[] {512, 512, -8, -8},
        -1280, -1280, -1000000000, -1000000000);
    // and is told as it is where it does not
    dueFence("f 14 0 2;f -4 0 3;f 15 0 4;f -2 2 0;f 11 3 0;g 15 0 0;g 1 0 1", new int[] {8, 8, -478, -478}, -999691064, -999391672, -990, -926);
    dueFence("f -1 0 2;f -8 0 3;f -20 0 4;f -2 2 0;f 11 3 0;g 18 0 0;g 1 0 1", new int[] {8, 8, -398, -398}, 998965000, 999467336, -1166, -1102);
    dueFence("g 14 2 0;g -4 3 0;g 15 4 0;g -2 0 2;g 11 0 3;f 15 0 0;f 1 1 0", new int[] {-478, -478, 8, 8}, -990, -926, -999691064, -999391672);
  }

  private static void fenceRefused() {
    Talk x = new Talk().due(OUTSIDE, "fence", -1).due(OUTSIDE, "fence", 6).due(OUTSIDE, "fence", HIGHEST).due(OUTSIDE, "fence", LOWEST);
    for (int what = 0; what < 6; what++) x.due(NOT, "fence", what);
    x.then("hold", 0, 0, 0, 0).due(OUTSIDE, "fence", -1).due(OUTSIDE, "fence", 6).due(0, "fence", 5);
  }

  // ---- VERDICTS

  private static void dueVerdict(String polynomials, int want, int... box) { Talk.told(polynomials).then("hold", box).due(want, "verdict"); }

  private static void shared() {
    // the fence of LINES is x 64, y 0: a border that it touches is in common, one beside it is not
    dueVerdict(LINES, 4, 0, 64, 0, 70);
    dueVerdict(LINES, 2, 0, 63, 0, 70);
    dueVerdict(LINES, 2, 0, 64, 1, 70);
    dueVerdict(LINES, 4, 64, 100, -40, 0);
    dueVerdict(LINES, 2, 65, 100, -40, 0);
    dueVerdict(LINES, 2, 64, 100, -40, -1);
    // what is shared is open then
    Talk.told(LINES + ";box 0 64 0 70").due(4, "step").dueBox("first", 64, 64, 0, 0);
    Talk.told(LINES + ";box 64 100 -40 0").due(4, "step").dueBox("first", 64, 64, 0, 0);
    // of a fence that goes beyond the box on one side, in x and in y
    Talk.told("f -1 1 1;f 1 2 0;g -2 2 0;box -17 -4 -20 -18").due(4, "step").dueBox("first", -11, -4, -20, -18);
    Talk.told("f 2 1 1;g 2 0 2;g 2 1 1;g -2 2 0;box 3 10 -39 -8").due(4, "step").dueBox("first", 3, 10, -24, -8);
  }

  private static void firstThatFits() {
    // 0 and 1
    dueVerdict("f 1 0 0;g 1 0 0", 0, 0, 8, 0, 8);
    // 0 and 2, 1 and 2: the fence is beside the box
    dueVerdict(POINT, 0, 65, 70, 60, 70);
    dueVerdict(POINT, 1, 60, 70, 65, 70);
    dueVerdict(POINT, 0, 65, 70, 65, 70);
    // 3 and 4: what is shared is small enough, too
    dueVerdict(POINT, 3, 0, 100, 0, 100);
    // 2 and 4: nothing shared has no width
    dueVerdict(LINES, 2, 0, 60, 1, 70);
    // 4 and 5
    dueVerdict(POINT, 4, 64, 100, 0, 100);
    dueVerdict("f 0 0 0", 5, 64, 100, 0, 100);
  }

  private static void verdict0() {
    dueVerdict("f 1 1 0;f -1 0 0", 5, 64, 70, 0, 1);
    dueVerdict("f 1 1 0;f -1 0 0", 0, 65, 70, 0, 1);
    dueVerdict("f 1 1 0;f -1 0 0", 5, 60, 64, 0, 1);
    dueVerdict("f 1 1 0;f -1 0 0", 0, 60, 63, 0, 1);
    // no terms: 0 is in it
    dueVerdict("f 0 0 0", 5, 0, 1, 0, 1);
    dueVerdict("f 1 0 0", 0, 0, 1, 0, 1);
    dueVerdict("f -1 0 0", 0, 0, 1, 0, 1);
    // put outward, 0 is in it, though it is nowhere 0
    dueVerdict("f 1 2 0", 5, 1, 1, 0, 1);
    dueVerdict("f 1 2 0", 0, 8, 8, 0, 1);
  }

  private static void verdict1() {
    dueVerdict("g 1 0 1;g -1 0 0", 5, 0, 1, 64, 70);
    dueVerdict("g 1 0 1;g -1 0 0", 1, 0, 1, 65, 70);
    dueVerdict("g 1 0 1;g -1 0 0", 5, 0, 1, 60, 64);
    dueVerdict("g 1 0 1;g -1 0 0", 1, 0, 1, 60, 63);
    dueVerdict("g 1 0 0", 1, 0, 1, 0, 1);
    dueVerdict("g -1 0 0", 1, 0, 1, 0, 1);
    dueVerdict("g 1 0 2", 5, 0, 1, 1, 1);
  }

  private static void verdict2() {
    // nothing in x alone, in y alone, in neither
    dueVerdict(LINES, 2, 0, 63, 0, 70);
    dueVerdict(LINES, 2, 0, 64, 1, 70);
    dueVerdict(LINES, 2, 0, 63, 1, 70);
    dueVerdict(LINES, 4, 0, 64, 0, 70);
    // both polynomials have 0 over the box, but without a fence there is no 2
    dueVerdict("f 1 1 0;f 1 0 1;f -1 0 0;g 2 1 0;g 2 0 1;g -3 0 0", 5, 0, 100, 0, 100);
  }

  private static void verdict3() {
    dueVerdict(POINT, 3, 63, 65, 63, 65);
    dueVerdict(POINT, 3, -512, 512, -512, 512);
    dueVerdict(POINT, 4, 64, 65, 63, 65);
    dueVerdict(POINT, 4, 63, 64, 63, 65);
    dueVerdict(POINT, 4, 63, 65, 64, 65);
    dueVerdict(POINT, 4, 63, 65, 63, 64);
    // a fence with a width, 21 .. 22
    dueVerdict("f 3 1 0;f -1 0 0;g 1 0 1", 3, 20, 23, -1, 1);
    dueVerdict("f 3 1 0;f -1 0 0;g 1 0 1", 4, 21, 23, -1, 1);
    dueVerdict("f 3 1 0;f -1 0 0;g 1 0 1", 4, 20, 22, -1, 1);
  }

  private static void verdict4NeedsWidth() {
    dueVerdict(POINT, 5, 64, 64, 64, 64);
    // a width of one of them is enough
    dueVerdict(POINT, 4, 64, 64, 60, 64);
    dueVerdict(POINT, 4, 60, 64, 64, 64);
    dueVerdict(POINT, 4, 64, 65, 64, 64);
    dueVerdict(POINT, 4, 64, 64, 64, 65);
  }

  private static void verdict4ThreeQuarters() {
    String system = "f 1 1 0;f 2 2 0;g 1 0 1;g 2 1 1";
    // x -10 .. 7 of 36, y all 40: 57 of 76, just three quarters
    dueFence(system, new int[] {-10, 26, -29, 11}, -68, 7, -33, 147);
    dueVerdict(system, 4, -10, 26, -29, 11);
    // x -12 .. 3 of 31, y -29 .. 14 of 46: 58 of 77, a quarter of one too many
    dueFence(system, new int[] {-12, 19, -32, 14}, -49, 3, -29, 171);
    dueVerdict(system, 5, -12, 19, -32, 14);
    // together: one of them may stay as it is, and one that is made small is not enough
    dueVerdict("f -1 1 1;f 1 2 0;g -2 2 0", 4, -17, -4, -20, -18);
    dueVerdict("f 2 1 1;g 2 0 2;g 2 1 1;g -2 2 0", 4, 3, 10, -39, -8);
    dueVerdict("f -2 1 1;f -3 2 0;g -1 0 1;g 1 1 0;g -2 2 0", 5, -17, -9, -20, 28);
    dueVerdict("f -3 1 1;g -2 0 2;g 1 1 1", 5, -9, 23, 17, 25);
    // no fence: 5
    dueVerdict("f 1 2 0;g 1 0 1", 5, -9, 9, -9, 9);
  }

  private static void verdict() {
    Talk x = new Talk().due(NOT, "verdict").then("begin", 0, 1, 0, 1).due(NOT, "verdict").due(OUTSIDE, "hold", 1, 0, 0, 0).due(NOT, "verdict");
    x.then("hold", 0, 1, 0, 1).due(5, "verdict").then("put", 1, 0, 0, 1).due(1, "verdict").then("put", 0, 0, 0, 1).due(0, "verdict");
    // LEAST is not asked, and no entry is made
    x.then("least", 64).due(0, "verdict").due(0, "count", 3).due(1, "count", 0);
  }
}
