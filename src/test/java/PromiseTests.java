/** Each promise of the document by itself: ordinary inputs, the edges that it names, wrong inputs. */
public final class PromiseTests {
  private static final int NONE = RootBoxes.NONE, UNKNOWN = RootBoxes.UNKNOWN, OUTSIDE = RootBoxes.OUTSIDE,
      NOT = RootBoxes.NOT, FULL = RootBoxes.FULL;
  private static final int LOWEST = Integer.MIN_VALUE, HIGHEST = Integer.MAX_VALUE;

  /** x + y = 1 and x + 2 y = 1. */
  private static final String LINES = "f 1 1 0;f 1 0 1;f -1 0 0;g 1 1 0;g 2 0 1;g -1 0 0";
  /** x x + y y = 4 and x = y. */
  private static final String CIRCLE = "f 1 2 0;f 1 0 2;f -4 0 0;g 1 1 0;g -1 0 1";
  /** x = 1 and y = 1. */
  private static final String POINT = "f 1 1 0;f -1 0 0;g 1 0 1;g -1 0 0";

  private static int wrong = 0;
  private static int asked = 0;
  private static String promise = "";

  private static void due(String call, int got, int want) {
    asked++;
    if (got != want) {
      wrong++;
      System.out.println(promise + ": " + call + " answered " + got + ", due is " + want);
    }
  }

  public static void main(String[] args) {
    newObject();
    write();
    erase();
    faultsOfWords();
    faultsOfNumbers();
    faultsOfClauseCount();
    tell();
    tellAll();
    put();
    term();
    sign();
    hold();
    value();
    slope();
    fence();
    fenceBeyondWhatIsTold();
    verdict();
    begin();
    least();
    step();
    stepRefused();
    steps();
    first();
    solved();
    doubtful();
    entry();
    broken();
    find();
    keepAndBack();
    count();
    System.out.println(asked + " answers asked for, " + wrong + " not as due");
    if (wrong != 0) System.exit(1);
  }

  // ---- helpers

  private static RootBoxes say(RootBoxes x, String text) {
    x.erase();
    for (char c : text.toCharArray()) x.write(c);
    return x;
  }

  private static RootBoxes told(String text) {
    RootBoxes x = say(new RootBoxes(), text);
    due("tell() of " + text, x.tell() > 0 ? 1 : 0, 1);
    return x;
  }

  private static void fault(String text, int place) { due("fault() of \"" + text + "\"", say(new RootBoxes(), text).fault(), place); }

  private interface Ends {
    int end(int what);
  }

  private static void dueBox(String call, Ends ends, int a, int b, int c, int d) {
    int[] want = {a, b, c, d};
    for (int what = 0; what < 4; what++) due(call + " end " + what, ends.end(what), want[what]);
  }

  private static void dueHeld(RootBoxes x, int a, int b, int c, int d, int verdict) {
    due("hold", x.hold(a, b, c, d), Math.max(b - a, d - c));
    due("verdict() of " + a + " " + b + " " + c + " " + d, x.verdict(), verdict);
  }

  private static int stepAll(RootBoxes x) {
    int sum = 0;
    for (int k = 0; k < 11; k++) sum += x.steps(20);
    return sum;
  }

  // ---- what is told

  private static void newObject() {
    promise = "1 new object";
    RootBoxes x = new RootBoxes();
    for (int what = 0; what < 15; what++) due("count(" + what + ")", x.count(what), what == 12 ? 4 : 0);
    due("first(0)", x.first(0), NOT);
    due("step()", x.step(), NOT);
    due("verdict()", x.verdict(), NOT);
    due("broken()", x.broken(), NONE);
    due("find(0, 0)", x.find(0, 0), 0);
    due("back(0)", x.back(0), NOT);
    due("back(1)", x.back(1), NOT);
    for (int i = 0; i < 5; i++) for (int j = 0; i + j < 5; j++) for (int p = 0; p < 2; p++) due("term", x.term(p, i, j), 0);
  }

  private static void write() {
    promise = "2 write";
    RootBoxes x = new RootBoxes();
    due("write(-1)", x.write(-1), OUTSIDE);
    due("write(256)", x.write(256), OUTSIDE);
    due("write(lowest)", x.write(LOWEST), OUTSIDE);
    due("count(13)", x.count(13), 0);
    due("write(0)", x.write(0), 1);
    due("write(255)", x.write(255), 2);
    for (int k = 3; k <= 200; k++) due("write(97)", x.write(97), k);
    due("write(97), the 201st", x.write(97), FULL);
    due("write(256), the 201st", x.write(256), OUTSIDE);
    due("count(13)", x.count(13), 200);
  }

  private static void erase() {
    promise = "3 erase";
    RootBoxes x = new RootBoxes();
    due("erase() of nothing", x.erase(), 0);
    say(x, "f 1 0 0");
    due("erase()", x.erase(), 7);
    due("count(13)", x.count(13), 0);
    due("erase() again", x.erase(), 0);
    due("fault()", x.fault(), 0);
    say(x, "x".repeat(200));
    due("erase() of 200", x.erase(), 200);
    due("write(97)", x.write(97), 1);
  }

  private static void faultsOfWords() {
    promise = "4 fault";
    fault("", 0);
    fault("   ", 3);
    fault("all", NONE);
    fault("  all  ", NONE);
    fault("all;", 4);
    fault("all; ", 5);
    fault(";", 0);
    fault(" ;all", 1);
    fault("all;;all", 4);
    fault("all all", 4);
    fault("all 1", 4);
    fault("All", 0);
    fault("aLl", 0);
    fault("al", 0);
    fault("alls", 0);
    fault("allall", 0);
    fault("allz", 0);
    fault("alla", 0);
    fault("f 1 0 00009", 6);
    fault("h 1 0 0", 0);
    fault("1", 0);
    fault("-", 0);
    fault("all;h", 4);
    fault("f 1 0 0 g 1 0 0", 8);
    fault("f 1 0 0g 1 0 0", 7);
    fault("f 1 0 0;g 1 0 0", NONE);
    fault("f1 0 0;least4;box0 1 0 1", NONE);
    fault("f\t1 0 0", 1);
    fault("f 1\n0 0", 3);
    fault("all" + (char) 0, 3);
    fault("all" + (char) 228, 3);
    fault((char) 255 + "all", 0);
    fault("all.", 3);
    fault("{", 0);
    fault("`", 0);
    fault("f 1 0 /", 6);
    fault("f 1 0 :", 6);
  }

  private static void faultsOfNumbers() {
    promise = "4 fault";
    fault("f", 1);
    fault("f ", 2);
    fault("f 1", 3);
    fault("f 1 2", 5);
    fault("f 1 2 ", 6);
    fault("f 1 2 0", NONE);
    fault("f 1 2 0 0", 8);
    fault("f x 2 0", 2);
    fault("f -1 2 0", NONE);
    fault("f - 1 2 0", NONE);
    fault("f-1 2 0", NONE);
    fault("f --1 2 0", 3);
    fault("f -", 3);
    fault("f - ;", 4);
    fault("f 1 -2 0", 4);
    fault("f 1-2 0", 3);
    fault("f 1 0 -0", 6);
    fault("f 20 0 0", NONE);
    fault("f 21 0 0", 2);
    fault("f -20 0 0", NONE);
    fault("f - 21 0 0", 4);
    fault("f 0 0 0", NONE);
    fault("f -0 0 0", NONE);
    fault("f 020 0 0", NONE);
    fault("f 0020 0 0", 2);
    fault("f 99999999999999999999 0 0", 2);
    fault("f 4294967297 0 0", 2);
    fault("f 1 4 0", NONE);
    fault("f 1 0 4", NONE);
    fault("f 1 2 2", NONE);
    fault("f 1 5 0", 4);
    fault("f 1 0 5", 6);
    fault("f 1 3 2", 6);
    fault("g 1 4 1", 6);
    fault("g 1 000 004", NONE);
    fault("g 1 0000 0", 4);
    fault("least", 5);
    fault("least 0", 6);
    fault("least 1", NONE);
    fault("least 64", NONE);
    fault("least 65", 6);
    fault("least -4", 6);
    fault("least 4 4", 8);
    fault("box -512 512 -512 512", NONE);
    fault("box -513 0 0 1", 5);
    fault("box 0 513 0 1", 6);
    fault("box 0 1 0 513", 10);
    fault("box 0 1 -513 1", 9);
    fault("box 0 0 0 1", 6);
    fault("box 1 0 0 1", 6);
    fault("box 0 1 5 5", 10);
    fault("box 0 1 5 -5", 11);
    fault("box 512 512 0 1", 8);
    fault("box -5 -4 -3 -2", NONE);
    fault("box -4 -5 -3 -2", 8);
    fault("box 0 1 0", 9);
    fault("box 0 1 0 1 2", 12);
    fault("box 0 1 0 0001", 10);
    // where two things are amiss the first token tells
    fault("f 21 5 5", 2);
    fault("all;f 1 5 5;h", 8);
  }

  private static void faultsOfClauseCount() {
    promise = "4 fault";
    fault("all" + ";all".repeat(23), NONE);
    fault("all" + ";all".repeat(24), 95);
    fault("all" + ";all".repeat(23) + ";", 95);
    fault("all" + ";all".repeat(23) + " ;", 96);
    fault("all" + ";all".repeat(23) + " all", 96);
    fault("f 0 0 0" + ";f 0 0 0".repeat(23), NONE);
    fault("f 0 0 0" + ";f 0 0 0".repeat(23) + "        ;", 199);
    RootBoxes x = say(new RootBoxes(), "all");
    due("fault()", x.fault(), NONE);
    due("count(13): fault changes nothing", x.count(13), 3);
  }

  private static void tell() {
    promise = "5 tell";
    RootBoxes x = new RootBoxes();
    due("tell() of nothing", x.tell(), NOT);
    due("tell()", say(x, "f 3 1 2; g -7 0 4; least 9; box -5 6 -7 9").tell(), 4);
    due("count(13)", x.count(13), 0);
    due("term(0, 1, 2)", x.term(0, 1, 2), 3);
    due("term(1, 0, 4)", x.term(1, 0, 4), -7);
    due("count(10)", x.count(10), 1);
    due("count(11)", x.count(11), 1);
    due("count(12)", x.count(12), 9);
    dueBox("first", x::first, -5, 6, -7, 9);
    due("tell() again", x.tell(), NOT);
    due("tell() with a fault at its end", say(x, "f 5 1 2; least 3; box 0 1 0 1;").tell(), NOT);
    due("term(0, 1, 2)", x.term(0, 1, 2), 3);
    due("count(12)", x.count(12), 9);
    due("count(13): the text stays", x.count(13), 30);
    due("tell(): the last of a place counts", say(x, "f 5 1 2;f 0 1 2;f -2 0 0;f 4 0 0").tell(), 4);
    due("term(0, 1, 2)", x.term(0, 1, 2), 0);
    due("term(0, 0, 0)", x.term(0, 0, 0), 4);
    due("count(10)", x.count(10), 1);
    due("steps(3)", x.steps(3), 1);
    due("count(3)", x.count(3), 1);
    due("tell(): f leaves the search", say(x, "f 4 0 1").tell(), 1);
    due("count(3)", x.count(3), 1);
    due("tell(): least leaves it", say(x, "least 64").tell(), 1);
    due("count(3)", x.count(3), 1);
    due("tell(): two boxes", say(x, "box 0 8 0 8;box 1 2 3 5").tell(), 2);
    due("count(3): the search is anew", x.count(3), 0);
    due("count(0)", x.count(0), 1);
    dueBox("first", x::first, 1, 2, 3, 5);
    due("count(12): box leaves least", x.count(12), 64);
    due("count(10): box leaves the terms", x.count(10), 2);
    due("tell() of 24", say(x, "least 1" + ";least 2".repeat(23)).tell(), 24);
    due("tell() of 25", say(x, "all" + ";all".repeat(24)).tell(), NOT);
    due("count(12)", x.count(12), 2);
  }

  private static void tellAll() {
    promise = "5 tell";
    RootBoxes x = told("f 1 0 0;g 1 1 1;least 7;box 0 9 0 9");
    due("steps(20)", x.steps(20), 1);
    due("keep(1)", x.keep(1), 1);
    due("hold", x.hold(0, 1, 0, 1), 1);
    due("tell()", say(x, "least 11;all").tell(), 2);
    for (int what = 0; what < 15; what++) due("count(" + what + ")", x.count(what), what == 12 ? 4 : 0);
    due("verdict(): none is held", x.verdict(), NOT);
    due("back(0)", x.back(0), NOT);
    due("back(1): what is kept stays", x.back(1), 1);
    due("count(12)", x.count(12), 7);
    due("term(1, 1, 1)", x.term(1, 1, 1), 1);
    due("tell(): in their order", say(x, "f 2 2 0;all;g 2 2 0").tell(), 3);
    due("count(10)", x.count(10), 0);
    due("count(11)", x.count(11), 1);
    due("hold", x.hold(0, 1, 0, 1), 1);
    due("tell(): no all", say(x, "f 2 2 0;least 4;box 0 1 0 1").tell(), 3);
    due("verdict(): it is held still", x.verdict(), 5);
  }

  private static void put() {
    promise = "6 put";
    RootBoxes x = new RootBoxes();
    due("put(0, 2, 1, 20)", x.put(0, 2, 1, 20), 0);
    due("put(0, 2, 1, -20)", x.put(0, 2, 1, -20), 20);
    due("put(1, 2, 1, 5)", x.put(1, 2, 1, 5), 0);
    due("put(0, 2, 1, 0)", x.put(0, 2, 1, 0), -20);
    due("count(10)", x.count(10), 0);
    due("term(1, 2, 1)", x.term(1, 2, 1), 5);
    due("put(-1, ..)", x.put(-1, 0, 0, 1), UNKNOWN);
    due("put(2, ..)", x.put(2, 0, 0, 1), UNKNOWN);
    due("put(2, 9, 9, 99): the first that fits", x.put(2, 9, 9, 99), UNKNOWN);
    due("put(0, -1, 0, 1)", x.put(0, -1, 0, 1), OUTSIDE);
    due("put(0, 0, -1, 1)", x.put(0, 0, -1, 1), OUTSIDE);
    due("put(0, 5, 0, 1)", x.put(0, 5, 0, 1), OUTSIDE);
    due("put(0, 3, 2, 1)", x.put(0, 3, 2, 1), OUTSIDE);
    due("put(0, 5, -1, 1)", x.put(0, 5, -1, 1), OUTSIDE);
    due("put(0, highest, highest, 1)", x.put(0, HIGHEST, HIGHEST, 1), OUTSIDE);
    due("put(0, lowest, lowest, 1)", x.put(0, LOWEST, LOWEST, 1), OUTSIDE);
    due("put(0, 0, 0, 21)", x.put(0, 0, 0, 21), OUTSIDE);
    due("put(0, 0, 0, -21)", x.put(0, 0, 0, -21), OUTSIDE);
    due("count(10)", x.count(10), 0);
    for (int i = 0; i < 5; i++) for (int j = 0; i + j < 5; j++) due("put", x.put(1, i, j, i + 5 * j - 20), i == 2 && j == 1 ? 5 : 0);
    for (int i = 0; i < 5; i++) for (int j = 0; i + j < 5; j++) due("term", x.term(1, i, j), i + 5 * j - 20);
    due("count(11): one at (0, 4) is 0", x.count(11), 14);
    x.begin(0, 8, 0, 8);
    due("step()", x.step(), 1);
    x.put(1, 0, 0, 0);
    x.put(0, 0, 0, 1);
    due("count(3): the search stays", x.count(3), 1);
    due("entry(0, 4)", x.entry(0, 4), 1);
  }

  private static void term() {
    promise = "7 term";
    RootBoxes x = told("f 3 4 0;g -2 0 4");
    due("term(0, 4, 0)", x.term(0, 4, 0), 3);
    due("term(0, 0, 4)", x.term(0, 0, 4), 0);
    due("term(1, 0, 4)", x.term(1, 0, 4), -2);
    due("term(1, 4, 0)", x.term(1, 4, 0), 0);
    due("term(2, 0, 0)", x.term(2, 0, 0), UNKNOWN);
    due("term(-1, 5, 0)", x.term(-1, 5, 0), UNKNOWN);
    due("term(0, 5, 0)", x.term(0, 5, 0), OUTSIDE);
    due("term(0, 4, 1)", x.term(0, 4, 1), OUTSIDE);
    due("term(0, 0, -1)", x.term(0, 0, -1), OUTSIDE);
    due("term(0, highest, 1)", x.term(0, HIGHEST, 1), OUTSIDE);
  }

  private static void sign() {
    promise = "8 sign";
    RootBoxes x = told("f 1 4 0;g 1 3 0;g -1 0 1");
    due("sign(1): no value is put outward", x.sign(0, 1, 0), 1);
    due("sign(0, -1, 7)", x.sign(0, -1, 7), 1);
    due("sign(0, 0, 7)", x.sign(0, 0, 7), 0);
    due("sign(1, 64, 64)", x.sign(1, 64, 64), 0);
    due("sign(1, 64, 65)", x.sign(1, 64, 65), -1);
    due("sign(1, 64, 63)", x.sign(1, 64, 63), 1);
    due("sign(1, 32, 8)", x.sign(1, 32, 8), 0);
    due("sign(1, -32, -8)", x.sign(1, -32, -8), 0);
    due("sign(1, 1, 0)", x.sign(1, 1, 0), 1);
    due("sign(1, -1, 0)", x.sign(1, -1, 0), -1);
    due("sign(1, 512, -512)", x.sign(1, 512, -512), 1);
    due("sign(1, -512, 512)", x.sign(1, -512, 512), -1);
    due("sign(2, 513, 0)", x.sign(2, 513, 0), UNKNOWN);
    due("sign(0, 513, 0)", x.sign(0, 513, 0), OUTSIDE);
    due("sign(0, 0, 513)", x.sign(0, 0, 513), OUTSIDE);
    due("sign(0, -513, 0)", x.sign(0, -513, 0), OUTSIDE);
    due("sign(0, 0, -513)", x.sign(0, 0, -513), OUTSIDE);
    due("sign(0, lowest, 0)", x.sign(0, LOWEST, 0), OUTSIDE);
    // 20 (x + y)(x - y)(x x + y y) against a constant: the sum is far beyond an int before it is measured
    RootBoxes far = told("f 20 4 0;f -20 0 4;f 1 0 0");
    due("sign at 512, 512", far.sign(0, 512, 512), 1);
    due("sign at 511, 512", far.sign(0, 511, 512), -1);
    due("sign of no terms", new RootBoxes().sign(1, 3, 3), 0);
  }

  // ---- one box

  private static void hold() {
    promise = "9 hold";
    RootBoxes x = new RootBoxes();
    due("hold(-512, 512, 0, 1)", x.hold(-512, 512, 0, 1), 1024);
    due("hold(1, 3, -4, 5)", x.hold(1, 3, -4, 5), 9);
    due("hold(7, 7, 7, 7)", x.hold(7, 7, 7, 7), 0);
    x.put(0, 1, 0, 1);
    due("hold(3, 2, 0, 1)", x.hold(3, 2, 0, 1), OUTSIDE);
    due("hold(0, 1, 3, 2)", x.hold(0, 1, 3, 2), OUTSIDE);
    due("hold(-513, 0, 0, 1)", x.hold(-513, 0, 0, 1), OUTSIDE);
    due("hold(0, 513, 0, 1)", x.hold(0, 513, 0, 1), OUTSIDE);
    due("hold(0, 1, -513, 1)", x.hold(0, 1, -513, 1), OUTSIDE);
    due("hold(0, 1, 0, 513)", x.hold(0, 1, 0, 513), OUTSIDE);
    due("hold(lowest, highest, 0, 1)", x.hold(LOWEST, HIGHEST, 0, 1), OUTSIDE);
    due("value(0, 0): the one before is held", x.value(0, 0), 7);
    due("value(0, 1)", x.value(0, 1), 7);
    due("count(0): no search begins", x.count(0), 0);
  }

  private static void dueValue(RootBoxes x, int low, int high) {
    due("value(0, 0)", x.value(0, 0), low);
    due("value(0, 1)", x.value(0, 1), high);
  }

  private static void value() {
    promise = "10 value";
    RootBoxes x = new RootBoxes();
    due("value(2, 2)", x.value(2, 2), UNKNOWN);
    due("value(0, 2)", x.value(0, 2), OUTSIDE);
    due("value(0, -1)", x.value(0, -1), OUTSIDE);
    due("value(0, 0)", x.value(0, 0), NOT);
    x.hold(1, 1, -1, -1);
    dueValue(x, 0, 0);
    due("value(2, 0)", x.value(2, 0), UNKNOWN);
    due("value(-1, 0)", x.value(-1, 0), UNKNOWN);
    x.put(0, 2, 0, 1);
    dueValue(x, 0, 1);          // 1/64 is between 0 and 1
    x.put(0, 2, 0, -3);
    dueValue(x, -3, 0);         // put outward first, then times -3
    x.put(0, 1, 1, 1);
    dueValue(x, -4, 0);         // -1/64 more: between -1 and 0
    x.put(0, 0, 0, 2);
    dueValue(x, 124, 128);
    RootBoxes y = told("f 1 2 0");
    y.hold(-64, 64, 0, 0);
    dueValue(y, -64, 64);       // a power is a product, not a square
    y.hold(-128, 64, 0, 0);
    dueValue(y, -128, 256);
    RootBoxes z = told("f 2 3 1");
    z.hold(30, 50, -20, 10);    // 30: 14 15, 6 8; 50: 39 40, 30 32; 32 by -20: -10; 32 by 10: 5
    dueValue(z, -20, 10);
    RootBoxes far = told("f 20 4 0;f 20 3 1;f 20 2 2;f 20 1 3;f 20 0 4");
    far.hold(512, 512, 512, 512);
    dueValue(far, 26214400, 26214400);
    far.hold(-512, 512, -512, 512);
    dueValue(far, -26214400, 26214400);
    due("value(1, 1)", far.value(1, 1), 0);
  }

  private static void dueSlope(RootBoxes x, int by, int low, int high) {
    due("slope(0, " + by + ", 0)", x.slope(0, by, 0), low);
    due("slope(0, " + by + ", 1)", x.slope(0, by, 1), high);
  }

  private static void slope() {
    promise = "11 slope";
    RootBoxes x = new RootBoxes();
    due("slope(2, 2, 2)", x.slope(2, 2, 2), UNKNOWN);
    due("slope(0, 2, 0)", x.slope(0, 2, 0), OUTSIDE);
    due("slope(0, -1, 0)", x.slope(0, -1, 0), OUTSIDE);
    due("slope(0, 0, 2)", x.slope(0, 0, 2), OUTSIDE);
    due("slope(0, 0, -1)", x.slope(0, 0, -1), OUTSIDE);
    due("slope(0, 0, 0)", x.slope(0, 0, 0), NOT);
    x.put(0, 0, 0, 9);
    x.hold(64, 128, -64, 64);
    dueSlope(x, 0, 0, 0);
    dueSlope(x, 1, 0, 0);
    x.put(0, 2, 1, 3);
    dueSlope(x, 0, -768, 768);  // 6 x y
    dueSlope(x, 1, 192, 768);   // 3 x x
    x.put(0, 0, 1, -1);
    dueSlope(x, 1, 128, 704);
    x.put(0, 1, 0, -2);
    dueSlope(x, 0, -896, 640);
    due("slope(1, 0, 0)", x.slope(1, 0, 0), 0);
    RootBoxes y = told("f -1 0 3");
    y.hold(0, 1, 1, 9);         // y y: 1/64 .. 81/64, so 0 .. 2, times -3
    dueSlope(y, 0, 0, 0);
    dueSlope(y, 1, -6, 0);
    RootBoxes far = told("f 20 4 0;f 20 0 4;f -20 3 1");
    far.hold(-512, 512, 512, 512);
    dueSlope(far, 0, -2621440 - 1966080, 2621440 + 1966080);
    dueSlope(far, 1, 2621440 - 655360, 2621440 + 655360);
  }

  private static void fence() {
    promise = "12 fence";
    RootBoxes x = new RootBoxes();
    due("fence(-1)", x.fence(-1), OUTSIDE);
    due("fence(6)", x.fence(6), OUTSIDE);
    due("fence(0)", x.fence(0), NOT);
    due("fence(5)", x.fence(5), NOT);
    say(x, "f 1 1 0;f -1 0 0;g 1 0 1;g 1 0 0").tell();
    x.hold(0, 100, -100, 0);
    dueBox("fence of x = 1, y = -1", x::fence, 64, 64, -64, -64);
    due("fence(4)", x.fence(4), 64);
    due("fence(5)", x.fence(5), 64);
    x.hold(0, 1, 0, 1);
    dueBox("fence beyond the box", x::fence, 64, 64, -64, -64);
    say(x, "all;f 1 1 0;g 2 1 0").tell();
    x.hold(0, 1, 0, 1);
    for (int what = 0; what < 4; what++) due("fence: none", x.fence(what), NONE);
    due("fence(4)", x.fence(4), 0);
    due("fence(5)", x.fence(5), 0);
    say(x, "all;f 1 2 0;g 1 0 1").tell();
    x.hold(-3, 9, 0, 1);
    due("fence(0): 0 is in D", x.fence(0), NONE);
    due("fence(4)", x.fence(4), -6);
    due("fence(5)", x.fence(5), 18);
    x.hold(0, 9, 0, 1);
    due("fence(0): 0 is the low of D", x.fence(0), NONE);
    due("fence(4)", x.fence(4), 0);
    x.hold(-9, 0, 0, 1);
    due("fence(0): 0 is the high of D", x.fence(0), NONE);
    x.hold(-9, -1, 0, 1);
    // middle -5: f 25/64, 0 .. 1; g 0; D -18 .. -2; gy f 0 .. 1; 64/-2 = -32 .. 0
    due("fence(0)", x.fence(0), -5);
    due("fence(1)", x.fence(1), 27);
    due("fence(4)", x.fence(4), -18);
    due("fence(5)", x.fence(5), -2);
    // fx g is 0, gx is 0: y stays at its middle, 0 of 0 .. 1
    due("fence(2)", x.fence(2), 0);
    due("fence(3)", x.fence(3), 0);
    RootBoxes circle = told(CIRCLE);
    circle.hold(80, 100, 80, 100);
    dueBox("fence of the circle", circle::fence, 90, 91, 90, 91);
    due("fence(4)", circle.fence(4), -400);
    due("fence(5)", circle.fence(5), -320);
  }

  private static void fenceBeyondWhatIsTold() {
    promise = "12 fence";
    RootBoxes steep = told("f 20 4 0;g 20 0 4");
    steep.hold(256, 512, 256, 512);
    due("fence(4) beyond", steep.fence(4), 1000000000);
    due("fence(5) beyond", steep.fence(5), 1000000000);
    due("fence(0) is told all the same", steep.fence(0) != NONE ? 1 : 0, 1);
    steep.put(1, 0, 4, -20);
    due("fence(4) beyond, below", steep.fence(4), -1000000000);
    due("fence(5) beyond, below", steep.fence(5), -1000000000);
    // D is 1, and fy g far beyond: x is put beyond on both ends
    RootBoxes flat = told("f 20 0 4;f 20 0 3;f 20 0 2;f 20 0 1;f 20 0 0;f 11 3 0;f -2 2 0;g 1 0 1;g 20 0 0");
    flat.hold(8, 8, 512, 512);
    due("fence(4)", flat.fence(4), 1);
    due("fence(5)", flat.fence(5), 1);
    due("fence(0) beyond", flat.fence(0), 1000000000);
    due("fence(1) beyond", flat.fence(1), 1000000000);
    due("fence(2)", flat.fence(2), 512 - 1792);
    due("fence(3)", flat.fence(3), 512 - 1792);
    due("verdict()", flat.verdict(), 0);
  }

  private static void verdict() {
    promise = "13 verdict";
    RootBoxes x = new RootBoxes();
    due("verdict()", x.verdict(), NOT);
    x.hold(0, 8, 0, 8);
    due("verdict() of no terms", x.verdict(), 5);
    say(x, "f 1 0 0;g 1 0 0").tell();
    due("verdict(): the first that fits", x.verdict(), 0);
    x.put(0, 0, 0, 0);
    due("verdict()", x.verdict(), 1);
    say(x, POINT).tell();
    dueHeld(x, 63, 65, 63, 65, 3);
    dueHeld(x, 64, 65, 63, 65, 4);
    dueHeld(x, 63, 64, 63, 65, 4);
    dueHeld(x, 63, 65, 64, 65, 4);
    dueHeld(x, 63, 65, 63, 64, 4);
    dueHeld(x, 64, 64, 64, 64, 5);      // no width: it cannot be made smaller
    dueHeld(x, 64, 64, 60, 64, 4);
    dueHeld(x, 65, 70, 60, 70, 0);
    dueHeld(x, 60, 70, 65, 70, 1);
    // both lines go through the box, but meet at x 64, y 0
    RootBoxes y = told(LINES);
    dueHeld(y, 0, 60, 1, 70, 2);
    dueHeld(y, 0, 63, 0, 70, 2);        // nothing in x alone
    dueHeld(y, 0, 64, 1, 70, 2);        // nothing in y alone
    dueHeld(y, 0, 64, 0, 70, 4);
    dueHeld(y, -1, 65, -1, 70, 3);
    // 57 of 76 is three quarters, just so; 58 of 77 is more
    RootBoxes z = told("f 1 1 0;f 2 2 0;g 1 0 1;g 2 1 1");
    dueHeld(z, -10, 26, -29, 11, 4);
    dueHeld(z, -12, 19, -32, 14, 5);
  }

  // ---- the search

  private static void begin() {
    promise = "14 begin";
    RootBoxes x = new RootBoxes();
    due("begin(0, 0, 0, 1)", x.begin(0, 0, 0, 1), OUTSIDE);
    due("begin(0, 1, 1, 1)", x.begin(0, 1, 1, 1), OUTSIDE);
    due("begin(1, 0, 0, 1)", x.begin(1, 0, 0, 1), OUTSIDE);
    due("begin(0, 1, 1, 0)", x.begin(0, 1, 1, 0), OUTSIDE);
    due("begin(-513, 1, 0, 1)", x.begin(-513, 1, 0, 1), OUTSIDE);
    due("begin(0, 513, 0, 1)", x.begin(0, 513, 0, 1), OUTSIDE);
    due("begin(0, 1, -513, 1)", x.begin(0, 1, -513, 1), OUTSIDE);
    due("begin(0, 1, 0, 513)", x.begin(0, 1, 0, 513), OUTSIDE);
    due("begin(lowest, highest, 0, 1)", x.begin(LOWEST, HIGHEST, 0, 1), OUTSIDE);
    due("count(0)", x.count(0), 0);
    due("begin(0, 3, -4, 5)", x.begin(0, 3, -4, 5), 9);
    due("begin(-512, 512, 0, 1)", x.begin(-512, 512, 0, 1), 1024);
    due("count(0)", x.count(0), 1);
    x.least(64);
    x.hold(1, 2, 1, 2);
    x.put(0, 1, 0, 1);
    due("steps(9)", x.steps(9), 9);
    due("begin(4, 6, 4, 6)", x.begin(4, 6, 4, 6), 2);
    for (int what = 0; what < 10; what++) due("count(" + what + ")", x.count(what), what == 0 ? 1 : 0);
    due("count(12): least stays", x.count(12), 64);
    due("count(10): terms stay", x.count(10), 1);
    due("verdict(): what is held stays", x.verdict(), 0);
    due("begin, refused", x.begin(9, 9, 9, 9), OUTSIDE);
    dueBox("first", x::first, 4, 6, 4, 6);
  }

  private static void least() {
    promise = "15 least";
    RootBoxes x = new RootBoxes();
    due("least(1)", x.least(1), 4);
    due("least(0)", x.least(0), OUTSIDE);
    due("least(65)", x.least(65), OUTSIDE);
    due("least(-4)", x.least(-4), OUTSIDE);
    due("least(64)", x.least(64), 1);
    due("count(12)", x.count(12), 64);
    x.begin(0, 64, 0, 64);
    due("step(): 64 is not above", x.step(), 5);
    due("count(2)", x.count(2), 1);
    x.begin(0, 65, 0, 64);
    due("step(): 65 is above", x.step(), 5);
    due("count(2)", x.count(2), 0);
    due("count(0)", x.count(0), 2);
  }

  private static void step() {
    promise = "16 step";
    RootBoxes x = new RootBoxes();
    due("step()", x.step(), NOT);
    x.begin(-7, 6, 0, 13);
    due("step(): like widths, x is parted", x.step(), 5);
    dueBox("first", x::first, -7, -1, 0, 13);
    due("step(): y is parted", x.step(), 5);
    dueBox("first", x::first, -1, 6, 0, 13);
    due("step()", x.step(), 5);
    due("count(0)", x.count(0), 4);
    dueBox("the widest is the first", x::first, -7, -1, 6, 13);
    dueBox("entry 0", what -> x.entry(0, what), -7, 6, 0, 13);
    dueBox("entry 1", what -> x.entry(1, what), -7, -1, 0, 13);
    dueBox("entry 2", what -> x.entry(2, what), -1, 6, 0, 13);
    due("count(2)", x.count(2), 0);
    RootBoxes y = told(POINT + ";box 0 64 0 200");
    due("step(): made smaller", y.step(), 4);
    dueBox("first", y::first, 64, 64, 64, 64);
    due("count(0)", y.count(0), 1);
    due("step(): of no width", y.step(), 5);
    dueBox("doubtful", what -> y.doubtful(0, what), 64, 64, 64, 64);
    due("step()", y.step(), NOT);
    y.begin(0, 200, 0, 200);
    due("step(): solved", y.step(), 3);
    dueBox("solved: the fence", what -> y.solved(0, what), 64, 64, 64, 64);
    due("count(0)", y.count(0), 0);
    y.begin(100, 200, 0, 200);
    due("step()", y.step(), 0);
    y.begin(0, 200, 100, 200);
    due("step()", y.step(), 1);
    due("count(0)", y.count(0), 0);
    due("count(1)", y.count(1), 0);
    RootBoxes z = told(LINES + ";box 0 60 1 70");
    due("step()", z.step(), 2);
    due("count(0)", z.count(0), 0);
  }

  private static void stepRefused() {
    promise = "16 step";
    RootBoxes x = new RootBoxes();
    x.begin(-512, 512, -512, 512);
    for (int k = 0; k < 63; k++) due("step()", x.step(), 5);
    due("count(0)", x.count(0), 64);
    due("step(): 65 would be open", x.step(), FULL);
    due("count(3): nothing changes", x.count(3), 63);
    due("count(0)", x.count(0), 64);
    dueBox("first", x::first, -512, -384, -512, -384);
    x.least(64);
    due("step()", x.step(), FULL);
    // a verdict that parts nothing is not refused with 64 open
    x.put(0, 0, 0, 1);
    due("step()", x.step(), 0);
    due("count(0)", x.count(0), 63);
    x.put(0, 0, 0, 0);
    due("step(): 64 may be open", x.step(), 5);
    due("count(0)", x.count(0), 64);
    RootBoxes y = told("f 4 0 0;f -1 2 0;g -2 0 2;least 3;box -512 512 -512 512");
    due("steps: 200", stepAll(y), 200);
    due("count(3)", y.count(3), 200);
    due("count(0)", y.count(0), 18);
    due("step(): 200 entries", y.step(), FULL);
    due("steps(1)", y.steps(1), 0);
    due("count(0): nothing changes", y.count(0), 18);
    due("entry(199, 4)", y.entry(199, 4) >= 0 ? 1 : 0, 1);
    due("entry(200, 4)", y.entry(200, 4), UNKNOWN);
    due("keep(0)", y.keep(0), 200);
    y.begin(0, 1, 0, 1);
    due("back(0)", y.back(0), 200);
    due("step()", y.step(), FULL);
  }

  private static void steps() {
    promise = "17 steps";
    RootBoxes x = new RootBoxes();
    due("steps(0)", x.steps(0), OUTSIDE);
    due("steps(21)", x.steps(21), OUTSIDE);
    due("steps(-1)", x.steps(-1), OUTSIDE);
    due("steps(highest)", x.steps(HIGHEST), OUTSIDE);
    due("steps(1): nothing is open", x.steps(1), 0);
    x.begin(-512, 512, -512, 512);
    due("steps(1)", x.steps(1), 1);
    due("steps(20)", x.steps(20), 20);
    due("count(3)", x.count(3), 21);
    due("steps(20)", x.steps(20), 20);
    due("steps(20)", x.steps(20), 20);
    due("steps(20): the next would be refused", x.steps(20), 2);
    due("count(3)", x.count(3), 63);
    x.begin(0, 8, 0, 4);
    due("steps(20): until nothing is open", x.steps(20), 3);
    due("count(2)", x.count(2), 2);
  }

  private static void first() {
    promise = "18 first";
    RootBoxes x = new RootBoxes();
    due("first(-1)", x.first(-1), OUTSIDE);
    due("first(4)", x.first(4), OUTSIDE);
    due("first(0)", x.first(0), NOT);
    x.begin(0, 16, 0, 32);
    dueBox("first", x::first, 0, 16, 0, 32);
    x.step();
    dueBox("of like widths and low x the least low y", x::first, 0, 16, 0, 16);
    x.step();
    dueBox("the greater width counts, not both", x::first, 0, 8, 0, 16);
    x.step();
    dueBox("the least low x goes before the least low y", x::first, 0, 16, 16, 32);
    x.step();
    dueBox("the least low x", x::first, 0, 8, 16, 32);
    x.step();
    dueBox("of like low x the least low y", x::first, 8, 16, 0, 16);
    due("first(4)", x.first(4), OUTSIDE);
    due("count(3): first changes nothing", x.count(3), 5);
    // one half is made smaller to a line on the other half's border: like greater width, like lows
    RootBoxes y = told("box -103 -83 15 25");
    due("step()", y.step(), 5);
    say(y, "f -7 1 3;g -7 0 1;g -5 1 1;g 1 0 0").tell();
    due("step()", y.step(), 4);
    dueBox("then the least high x", y::first, -93, -93, 15, 25);
    RootBoxes z = told("box 15 25 -103 -83");
    due("step()", z.step(), 5);
    say(z, "f -7 3 1;g -7 1 0;g -5 1 1;g 1 0 0").tell();
    due("step()", z.step(), 4);
    dueBox("then the least high y", z::first, 15, 25, -93, -93);
  }

  private static void solved() {
    promise = "19 solved";
    RootBoxes x = told(CIRCLE + ";box -200 200 -200 200");
    due("solved(0, 0)", x.solved(0, 0), UNKNOWN);
    due("steps", stepAll(x), 37);
    due("count(1)", x.count(1), 2);
    dueBox("solved 0", what -> x.solved(0, what), -91, -89, -92, -89);
    dueBox("solved 1", what -> x.solved(1, what), 89, 91, 89, 92);
    due("solved(2, 0)", x.solved(2, 0), UNKNOWN);
    due("solved(2, 4)", x.solved(2, 4), UNKNOWN);
    due("solved(-1, 0)", x.solved(-1, 0), UNKNOWN);
    due("solved(0, 4)", x.solved(0, 4), OUTSIDE);
    due("solved(0, -1)", x.solved(0, -1), OUTSIDE);
    // three roots, two of them with like x: by low x, then by low y, however they came
    RootBoxes y = told("f 1 1 0;f 1 0 2;g 1 0 1;g 4 1 1;box -34 223 -82 281");
    stepAll(y);
    due("count(1)", y.count(1), 3);
    for (int k = 1; k < 3; k++) {
      boolean inOrder = y.solved(k - 1, 0) < y.solved(k, 0)
          || y.solved(k - 1, 0) == y.solved(k, 0) && y.solved(k - 1, 2) < y.solved(k, 2);
      due("solved ones are in their order", inOrder ? 1 : 0, 1);
    }
    due("solved(0, 2)", y.solved(0, 2), -32);
    due("solved(1, 2)", y.solved(1, 2), 32);
    // the root at 0 is found before the one at -2
    RootBoxes z = told("f -1 2 0;f -2 1 0;g 1 0 1;box -131 104 -7 9");
    while (z.count(1) == 0 && z.step() >= 0) due("entries", z.count(3) < 12 ? 1 : 0, 1);
    due("solved(0, 0)", z.solved(0, 0), 0);
    stepAll(z);
    due("count(1)", z.count(1), 2);
    due("solved(0, 0)", z.solved(0, 0), -128);
    due("solved(1, 0)", z.solved(1, 0), 0);
  }

  private static void doubtful() {
    promise = "20 doubtful";
    RootBoxes x = new RootBoxes();
    due("doubtful(0, 0)", x.doubtful(0, 0), UNKNOWN);
    x.begin(0, 8, 0, 9);
    due("steps(20)", x.steps(20), 11);
    due("count(2)", x.count(2), 5 + 1);
    dueBox("doubtful 0", what -> x.doubtful(0, what), 0, 4, 0, 4);
    dueBox("doubtful 1", what -> x.doubtful(1, what), 0, 4, 4, 6);
    dueBox("doubtful 5", what -> x.doubtful(5, what), 4, 8, 6, 9);
    due("doubtful(6, 0)", x.doubtful(6, 0), UNKNOWN);
    due("doubtful(-1, 9)", x.doubtful(-1, 9), UNKNOWN);
    due("doubtful(0, 4)", x.doubtful(0, 4), OUTSIDE);
    due("doubtful(0, -1)", x.doubtful(0, -1), OUTSIDE);
    RootBoxes y = new RootBoxes();
    y.begin(0, 7, 0, 1);
    due("steps(20)", y.steps(20), 3);
    dueBox("as they came, not by their ends", what -> y.doubtful(0, what), 3, 7, 0, 1);
    dueBox("as they came, not by their ends", what -> y.doubtful(1, what), 0, 3, 0, 1);
  }

  private static void entry() {
    promise = "21 entry";
    RootBoxes x = told(POINT + ";box 0 64 0 200");
    due("entry(0, 0)", x.entry(0, 0), UNKNOWN);
    due("entry(0, 4)", x.entry(0, 4), UNKNOWN);
    due("steps(20)", x.steps(20), 2);
    dueBox("entry 0", what -> x.entry(0, what), 0, 64, 0, 200);
    dueBox("entry 1", what -> x.entry(1, what), 64, 64, 64, 64);
    due("entry(0, 4)", x.entry(0, 4), 4);
    due("entry(1, 4)", x.entry(1, 4), 5);
    due("entry(1, 5)", x.entry(1, 5), 5);
    due("entry(0, 6)", x.entry(0, 6), OUTSIDE);
    due("entry(0, -1)", x.entry(0, -1), OUTSIDE);
    due("entry(2, 6)", x.entry(2, 6), UNKNOWN);
    due("entry(-1, 4)", x.entry(-1, 4), UNKNOWN);
    due("entry(-1, 5)", x.entry(-1, 5), UNKNOWN);
    due("entry(highest, 5)", x.entry(HIGHEST, 5), UNKNOWN);
    due("entry(lowest, 0)", x.entry(LOWEST, 0), UNKNOWN);
    x.put(0, 0, 0, 1);
    due("entry(1, 4)", x.entry(1, 4), 5);
    due("entry(1, 5): now", x.entry(1, 5), 0);
    due("entry(0, 5): now", x.entry(0, 5), 0);
    x.least(64);
    due("entry(0, 4)", x.entry(0, 4), 4);
  }

  private static void broken() {
    promise = "22 broken";
    RootBoxes x = told(CIRCLE + ";box -200 200 -200 200");
    due("broken() of no entries", x.broken(), NONE);
    stepAll(x);
    due("broken()", x.broken(), NONE);
    x.put(0, 0, 0, -5);
    due("broken(): of another polynomial", x.broken(), 16);
    due("entry(16, 4) is not entry(16, 5)", x.entry(16, 4) == x.entry(16, 5) ? 1 : 0, 0);
    for (int k = 0; k < 16; k++) due("entry(" + k + ", 5)", x.entry(k, 5), x.entry(k, 4));
    due("count(3): nothing changes", x.count(3), 37);
    x.put(0, 0, 0, 20);
    due("broken()", x.broken(), 0);
    x.put(0, 0, 0, -4);
    due("broken(): it holds again", x.broken(), NONE);
    x.least(64);
    due("broken(): least is not asked", x.broken(), NONE);
    x.hold(1, 2, 3, 4);
    x.broken();
    due("broken() leaves what is held", x.verdict(), 0);
  }

  private static void find() {
    promise = "23 find";
    RootBoxes x = told(CIRCLE + ";box -200 200 -200 200");
    due("find(513, 0)", x.find(513, 0), OUTSIDE);
    due("find(0, 513)", x.find(0, 513), OUTSIDE);
    due("find(-513, 0)", x.find(-513, 0), OUTSIDE);
    due("find(0, -513)", x.find(0, -513), OUTSIDE);
    due("find(200, -200): borders belong", x.find(200, -200), 1);
    due("find(201, -200)", x.find(201, -200), 0);
    due("find(200, -201)", x.find(200, -201), 0);
    due("find(-201, 0)", x.find(-201, 0), 0);
    due("find(0, 201)", x.find(0, 201), 0);
    stepAll(x);
    due("find(90, 90)", x.find(90, 90), 2);
    due("find(-91, -92): borders belong", x.find(-91, -92) & 2, 2);
    due("find(-92, -92)", x.find(-92, -92) & 2, 0);
    due("find(0, 0)", x.find(0, 0), 8);
    due("find(512, 512)", x.find(512, 512), 0);
    RootBoxes y = new RootBoxes();
    y.begin(0, 8, 0, 2);
    due("steps(2)", y.steps(2), 2);
    due("find(2, 1)", y.find(2, 1), 4);
    due("find(4, 1): of both", y.find(4, 1), 5);
    due("find(5, 1)", y.find(5, 1), 1);
    y.put(1, 0, 0, 1);
    due("step()", y.step(), 1);
    due("find(4, 1)", y.find(4, 1), 12);
    due("find(5, 1)", y.find(5, 1), 8);
    due("find(3, 1): an entry with verdict 5 does not count", y.find(3, 1), 4);
    // the verdict that it got counts, not what it would get now
    y.put(1, 0, 0, 0);
    due("find(5, 1)", y.find(5, 1), 8);
    // entries with verdicts 3 and 4 do not count
    RootBoxes z = told(POINT + ";box 0 200 0 200");
    due("step()", z.step(), 3);
    due("find(10, 10)", z.find(10, 10), 0);
    z.begin(0, 64, 0, 200);
    due("step()", z.step(), 4);
    due("find(10, 10)", z.find(10, 10), 0);
    due("find(64, 64)", z.find(64, 64), 1);
    // verdict 2 does
    RootBoxes w = told(LINES + ";box 0 60 1 70");
    due("step()", w.step(), 2);
    due("find(60, 1)", w.find(60, 1), 8);
  }

  // ---- what is kept

  private static void keepAndBack() {
    promise = "24 keep, 25 back";
    RootBoxes x = told(CIRCLE + ";least 5;box -200 200 -200 200");
    due("keep(-1)", x.keep(-1), OUTSIDE);
    due("keep(2)", x.keep(2), OUTSIDE);
    due("back(-1)", x.back(-1), OUTSIDE);
    due("back(2)", x.back(2), OUTSIDE);
    due("back(0)", x.back(0), NOT);
    due("keep(0)", x.keep(0), 0);
    due("back(1)", x.back(1), NOT);
    x.steps(20);
    int[] half = new int[15];
    for (int what = 0; what < 15; what++) half[what] = x.count(what);
    due("keep(1)", x.keep(1), 20);
    due("steps", stepAll(x), 17);
    x.put(0, 0, 0, 7);
    x.put(1, 4, 0, 7);
    x.least(33);
    x.hold(0, 5, 0, 5);
    say(x, "abc");
    due("back(1)", x.back(1), 20);
    for (int what = 0; what < 15; what++) if (what != 13) due("count(" + what + ")", x.count(what), half[what]);
    due("count(13): the text is not kept", x.count(13), 3);
    due("hold is not kept", x.value(1, 1), 5);
    due("term(0, 0, 0)", x.term(0, 0, 0), -4);
    due("term(1, 4, 0)", x.term(1, 4, 0), 0);
    due("broken()", x.broken(), NONE);
    due("steps: they go on as before", stepAll(x), 17);
    dueBox("solved 1", what -> x.solved(1, what), 89, 91, 89, 92);
    due("back(1): what is kept is not what goes on", x.back(1), 20);
    due("count(1)", x.count(1), half[1]);
    due("back(0)", x.back(0), 0);
    dueBox("first", x::first, -200, 200, -200, 200);
    x.begin(1, 2, 3, 4);
    x.put(0, 0, 0, 1);
    due("step()", x.step(), 0);
    due("keep(0): for what was kept", x.keep(0), 1);
    due("back(1)", x.back(1), 20);
    due("back(0)", x.back(0), 1);
    dueBox("entry 0", what -> x.entry(0, what), 1, 2, 3, 4);
    due("term(0, 0, 0)", x.term(0, 0, 0), 1);
    due("back(2)", x.back(2), OUTSIDE);
    due("count(3)", x.count(3), 1);
    RootBoxes z = told("box 0 7 0 1");
    due("steps(20)", z.steps(20), 3);
    due("keep(0)", z.keep(0), 3);
    z.put(0, 0, 0, 1);
    z.begin(0, 9, 0, 9);
    due("step()", z.step(), 0);
    due("back(0)", z.back(0), 3);
    due("count(2)", z.count(2), 2);
    dueBox("doubtful 0", what -> z.doubtful(0, what), 3, 7, 0, 1);
    due("entry(0, 4)", z.entry(0, 4), 5);
    due("count(9)", z.count(9), 3);
    RootBoxes y = new RootBoxes();
    due("keep(1) of a new one", y.keep(1), 0);
    y.put(0, 0, 0, 3);
    due("back(1)", y.back(1), 0);
    due("count(10)", y.count(10), 0);
  }

  private static void count() {
    promise = "26 count";
    RootBoxes x = told(CIRCLE + ";box -200 200 -200 200");
    due("count(-1)", x.count(-1), OUTSIDE);
    due("count(15)", x.count(15), OUTSIDE);
    due("count(lowest)", x.count(LOWEST), OUTSIDE);
    due("count(14)", x.count(14), 400);
    due("step()", x.step(), 5);
    due("count(0)", x.count(0), 2);
    due("count(14)", x.count(14), 400);
    due("step()", x.step(), 5);
    due("count(0)", x.count(0), 3);
    due("count(14): two halves of y have the width of x each", x.count(14), 600);
    int[] seen = new int[6];
    stepAll(x);
    for (int k = 0; k < x.count(3); k++) seen[x.entry(k, 4)]++;
    for (int k = 0; k < 6; k++) due("count(" + (4 + k) + ")", x.count(4 + k), seen[k]);
    int[] want = {0, 2, 0, 37, 4, 6, 4, 2, 6, 15, 3, 2, 4, 0, 0};
    for (int what = 0; what < 15; what++) due("count(" + what + ")", x.count(what), want[what]);
    x.least(9);
    due("count(12)", x.count(12), 9);
    say(x, "what");
    due("count(13)", x.count(13), 4);
    x.put(1, 0, 1, 0);
    due("count(11)", x.count(11), 1);
    due("count(10)", x.count(10), 3);
  }
}
