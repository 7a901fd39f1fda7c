import java.util.ArrayList;
import java.util.List;
import java.util.Random;
import java.util.function.Consumer;

/** The document's first lines, as what holds of every box and every search: no root is lost, and none is made up. */
public final class WhatItIsSentences {
  private static final int NONE = Talk.NONE, NOT = Talk.NOT;
  private static final int BOXES = 70;

  /** Two polynomials and their common roots, all of them, in 64ths. */
  private record Equations(String text, int[][] roots) { }

  private static final List<Equations> ALL = List.of(
      new Equations("f 1 1 0;f -1 0 0;g 1 0 1;g 2 0 0", new int[][] {{64, -128}}),
      new Equations("f 2 1 0;f -1 0 0;g 4 0 1;g 3 0 0", new int[][] {{32, -48}}),
      new Equations("f 3 1 0;f 5 0 1;f 1 0 0;g 2 1 0;g 3 0 1;g 1 0 0", new int[][] {{-128, 64}}),
      new Equations("f 1 2 0;f -1 0 0;g 1 0 2;g -4 0 0", new int[][] {{-64, -128}, {-64, 128}, {64, -128}, {64, 128}}),
      new Equations("f 1 2 0;f -1 1 0;f -6 0 0;g 1 0 2;g 5 0 1;g 4 0 0", new int[][] {{-128, -256}, {-128, -64}, {192, -256}, {192, -64}}),
      new Equations("f 1 2 0;f 1 0 2;f -5 0 0;g 1 1 0;g -1 0 1;g -1 0 0", new int[][] {{-64, -128}, {128, 64}}),
      new Equations("f 1 2 0;f 1 0 2;f -5 0 0;g 1 1 1;g -2 0 0", new int[][] {{-128, -64}, {-64, -128}, {64, 128}, {128, 64}}),
      new Equations("f 1 1 1;f -4 0 0;g 1 1 0;g 1 0 1;g -5 0 0", new int[][] {{64, 256}, {256, 64}}),
      new Equations("f 1 3 0;f -1 0 1;g 1 1 0;g -1 0 1", new int[][] {{-64, -64}, {0, 0}, {64, 64}}),
      new Equations("f 1 4 0;f 1 0 4;f -17 0 0;g 1 1 1;g -2 0 0", new int[][] {{-128, -64}, {-64, -128}, {64, 128}, {128, 64}}),
      new Equations("f 1 1 0;f -1 0 2;g 1 1 0;g -1 0 0", new int[][] {{64, -64}, {64, 64}}),
      new Equations("f 4 2 0;f -1 0 0;g 2 0 1;g -4 1 0;g 1 0 0", new int[][] {{-32, -96}, {32, 32}}),
      // where it only touches 0 no box is shown to have just one root
      new Equations("f 1 2 0;g 1 0 1", new int[][] {{0, 0}}),
      new Equations("f 1 2 0;f -2 1 0;f 1 0 0;g 1 0 1;g -1 1 0", new int[][] {{64, 64}}),
      new Equations("f 1 2 0;f 1 0 2;f -2 0 0;g 1 1 0;g 1 0 1;g -2 0 0", new int[][] {{64, 64}}),
      // no root at all
      new Equations("f 1 2 0;f 1 0 2;f 1 0 0;g 1 1 0;g -1 0 1", new int[][] {}),
      new Equations("f 1 1 0;f 1 0 1;f -1 0 0;g 1 1 0;g 1 0 1;g 1 0 0", new int[][] {}));

  public static void main(String[] args) {
    Sentences.sentence("polynomials told term by term", WhatItIsSentences::termByTerm);
    Sentences.sentence("spans of numbers whose ends are put outward; what a polynomial comes to over a box, how steep it is there",
        WhatItIsSentences::comesTo);
    Sentences.sentence("by that a fence in which all its roots must be", WhatItIsSentences::fence);
    Sentences.sentence("boxes shown to have no root, shown to have just one", WhatItIsSentences::shown);
    Sentences.sentence("made smaller, parted", WhatItIsSentences::madeSmallerOrParted);
    Sentences.sentence("those that wait, the widest first", WhatItIsSentences::widestFirst);
    Sentences.sentence("those that are solved, those that stay in doubt", WhatItIsSentences::solvedOrInDoubt);
    Sentences.sentence("a proof, entry by entry, that can be asked again, also of other polynomials", WhatItIsSentences::proof);
    Sentences.sentence("points looked for", WhatItIsSentences::points);
    Sentences.sentence("polynomials told in a small text, read to its first fault", WhatItIsSentences::firstFault);
    Sentences.sentence("all kept, all gone back to", WhatItIsSentences::keptAndGoneBackTo);
    Sentences.end();
  }

  private static void must(String what, boolean holds) { Sentences.must(what, holds); }

  // ---- boxes

  private static boolean holds(int[] box, int[] point) {
    return box[0] <= point[0] && point[0] <= box[1] && box[2] <= point[1] && point[1] <= box[3];
  }

  private static int rootsIn(int[] box, Equations e) {
    int sum = 0;
    for (int[] root : e.roots) if (holds(box, root)) sum++;
    return sum;
  }

  private static int inside(int end) { return Math.max(-512, Math.min(512, end)); }

  /** Around a root, if there is any, wide ones and narrow ones, the root inside, on a border or beside. */
  private static int[] boxNear(Equations e, Random random) {
    int[] at = e.roots.length == 0 ? new int[] {0, 0} : e.roots[random.nextInt(e.roots.length)];
    int reach = new int[] {3, 20, 60, 300}[random.nextInt(4)];
    int beside = random.nextInt(4) == 0 ? reach / 2 + 1 : 0;
    return new int[] {inside(at[0] - random.nextInt(reach) + beside), inside(at[0] + random.nextInt(reach) + beside),
        inside(at[1] - random.nextInt(reach)), inside(at[1] + random.nextInt(reach))};
  }

  private static String told(Equations e, int[] box) { return e.text + " over " + box[0] + " " + box[1] + " " + box[2] + " " + box[3]; }

  private static int[] ends(Talk x, String name, int number) {
    return new int[] {x.ask(name, number, 0), x.ask(name, number, 1), x.ask(name, number, 2), x.ask(name, number, 3)};
  }

  private static int width(int[] box) { return Math.max(box[1] - box[0], box[3] - box[2]); }

  private static void termByTerm() {
    for (Equations e : ALL) {
      Talk x = new Talk(), y = Talk.told(e.text);
      for (String clause : e.text.split(";")) {
        String[] words = clause.split(" ");
        x.due(0, "put", words[0].equals("f") ? 0 : 1, Integer.parseInt(words[2]), Integer.parseInt(words[3]), Integer.parseInt(words[1]));
      }
      for (int p = 0; p < 2; p++) for (int i = 0; i <= 4; i++) for (int j = 0; i + j <= 4; j++) x.due(y.ask("term", p, i, j), "term", p, i, j);
      // and they are 0 where their roots are
      for (int[] root : e.roots) x.due(0, "sign", 0, root[0], root[1]).due(0, "sign", 1, root[0], root[1]);
    }
  }

  private static long power(int base, int exponent) {
    long product = 1;
    for (int k = 0; k < exponent; k++) product *= base;
    return product;
  }

  /** What a polynomial (by -1), or how steep by x (0) or y (1), comes to at a point, by 64 to the 4th. */
  private static long justSo(int[][] terms, int by, int x, int y) {
    long sum = 0;
    for (int[] t : terms) {
      int i = t[1] - (by == 0 ? 1 : 0), j = t[2] - (by == 1 ? 1 : 0);
      int times = by == 0 ? t[1] : by == 1 ? t[2] : 1;
      if (i >= 0 && j >= 0) sum += t[0] * times * power(x, i) * power(y, j) * power(64, 4 - i - j);
    }
    return sum;
  }

  private static void comesTo() {
    Random random = new Random(1);
    int[][] terms = {{3, 3, 1}, {-7, 0, 4}, {5, 2, 0}, {-20, 1, 1}, {11, 0, 0}, {1, 1, 3}};
    Talk x = new Talk();
    for (int[] t : terms) x.then("put", 0, t[1], t[2], t[0]);
    for (int k = 0; k < BOXES; k++) {
      int[] box = boxNear(ALL.get(k % ALL.size()), random);
      x.then("hold", box);
      int[] ends = {x.ask("value", 0, 0), x.ask("value", 0, 1), x.ask("slope", 0, 0, 0), x.ask("slope", 0, 0, 1), x.ask("slope", 0, 1, 0), x.ask("slope", 0, 1, 1)};
      for (int n = 0; n < 20; n++) {
        int px = box[0] + random.nextInt(box[1] - box[0] + 1), py = box[2] + random.nextInt(box[3] - box[2] + 1);
        for (int by = -1; by < 2; by++) {
          long at = justSo(terms, by, px, py), unit = power(64, 3);
          must("by " + by + " at " + px + " " + py + " it is in what is told", ends[2 * by + 2] * unit <= at && at <= ends[2 * by + 3] * unit);
        }
      }
    }
  }

  private static void fence() {
    Random random = new Random(2);
    int fences = 0;
    for (Equations e : ALL) {
      Talk x = Talk.told(e.text);
      for (int k = 0; k < BOXES; k++) {
        int[] box = boxNear(e, random);
        x.then("hold", box);
        if (x.ask("fence", 0) == NONE) continue;
        int[] fence = {x.ask("fence", 0), x.ask("fence", 1), x.ask("fence", 2), x.ask("fence", 3)};
        fences++;
        for (int[] root : e.roots) if (holds(box, root)) must("the root is in the fence: " + told(e, box), holds(fence, root));
      }
    }
    must("there were fences: " + fences, fences > 200);
  }

  private static void shown() {
    Random random = new Random(3);
    int[] seen = new int[6];
    for (Equations e : ALL) {
      Talk x = Talk.told(e.text);
      for (int k = 0; k < BOXES; k++) {
        int[] box = boxNear(e, random);
        int verdict = x.then("hold", box).ask("verdict"), roots = rootsIn(box, e);
        must("a verdict, 0 .. 5: " + verdict, verdict >= 0 && verdict <= 5);
        if (verdict >= 0 && verdict <= 5) seen[verdict]++;
        if (verdict <= 2) must("no root: " + told(e, box), roots == 0);
        if (verdict == 3) must("just one root: " + told(e, box), roots == 1);
      }
    }
    for (int verdict = 0; verdict < 6; verdict++) must("verdict " + verdict + " was among them, " + seen[verdict] + " times", seen[verdict] > 5);
  }

  // ---- searches

  private interface Look {
    void at(Talk x, Equations e, int[] box);
  }

  /** Searches of all equations, from boxes of many sizes; each step is looked at, at most so many. */
  private static void search(int steps, Look afterEach, Look atTheEnd) {
    Random random = new Random(4);
    for (Equations e : ALL) {
      for (int k = 0; k < 6; k++) {
        int[] box = boxNear(e, random);
        if (box[0] == box[1] || box[2] == box[3]) continue;
        Talk x = Talk.told(e.text).then("least", 1 + random.nextInt(6)).then("begin", box);
        for (int n = 0; n < steps && x.ask("step") >= 0; n++) afterEach.at(x, e, box);
        atTheEnd.at(x, e, box);
      }
    }
  }

  /** The roots of the box with which it began are in what waits, is solved or in doubt, and in nothing that is shown to have none. */
  private static void noneIsLost(Talk x, Equations e, int[] box) {
    for (int[] root : e.roots) {
      if (!holds(box, root)) continue;
      int found = x.ask("find", root[0], root[1]);
      must("the root is in what is left: " + told(e, box) + ", find is " + found, (found & 7) != 0 && (found & 8) == 0);
    }
  }

  private static void madeSmallerOrParted() {
    int[] seen = new int[6];
    search(40, (x, e, box) -> {
      int last = x.ask("count", 3) - 1;
      seen[x.ask("entry", last, 4)]++;
      noneIsLost(x, e, box);
    }, (x, e, box) -> { });
    must("some were made smaller: " + seen[4], seen[4] > 20);
    must("some were parted, or in doubt: " + seen[5], seen[5] > 20);
  }

  private static void widestFirst() {
    search(40, (x, e, box) -> {
      int last = x.ask("count", 3) - 1;
      if (last > 0) {
        int before = width(ends(x, "entry", last - 1)), then = width(ends(x, "entry", last));
        must("none is wider than the one before it: " + told(e, box), then <= before);
      }
    }, (x, e, box) -> {
      int last = x.ask("count", 3) - 1;
      if (x.ask("first", 0) == NOT) return;
      int[] first = {x.ask("first", 0), x.ask("first", 1), x.ask("first", 2), x.ask("first", 3)};
      must("nor the one that waits: " + told(e, box), width(first) <= width(ends(x, "entry", last)));
    });
  }

  private static void solvedOrInDoubt() {
    int[] seen = new int[2];
    search(200, (x, e, box) -> { }, (x, e, box) -> {
      noneIsLost(x, e, box);
      seen[0] += x.ask("count", 1);
      seen[1] += x.ask("count", 2);
      for (int k = 0; k < x.ask("count", 1); k++) must("just one root in a solved one: " + told(e, box), rootsIn(ends(x, "solved", k), e) == 1);
    });
    must("some were solved: " + seen[0], seen[0] > 10);
    must("some stayed in doubt: " + seen[1], seen[1] > 10);
  }

  /** The entries are asked for, and their boxes held: the verdict is the one that was told. */
  private static void proof() {
    search(40, (x, e, box) -> { }, (x, e, box) -> {
      x.due(NONE, "broken");
      int entries = Math.min(20, x.ask("count", 3));
      List<int[]> boxes = new ArrayList<>();
      int[] got = new int[entries];
      for (int k = 0; k < entries; k++) {
        boxes.add(ends(x, "entry", k));
        got[k] = x.ask("entry", k, 4);
        x.then("hold", boxes.get(k)).due(got[k], "verdict").due(got[k], "entry", k, 5);
      }
      // of other polynomials: the first whose verdict is another one
      int c = x.ask("term", 0, 0, 0);
      x.then("put", 0, 0, 0, c > 15 ? c - 5 : c + 5);
      int first = NONE;
      for (int k = 0; k < entries; k++) {
        int verdict = x.then("hold", boxes.get(k)).ask("verdict");
        x.due(verdict, "entry", k, 5).due(got[k], "entry", k, 4);
        if (verdict != got[k] && first == NONE) first = k;
      }
      if (first != NONE) x.due(first, "broken");
      x.then("put", 0, 0, 0, c).due(NONE, "broken");
    });
  }

  private static void points() {
    Random random = new Random(5);
    search(20, (x, e, box) -> { }, (x, e, box) -> {
      List<int[]> shown = new ArrayList<>(), solved = new ArrayList<>(), doubtful = new ArrayList<>();
      for (int k = 0; k < x.ask("count", 3); k++) if (x.ask("entry", k, 4) <= 2) shown.add(ends(x, "entry", k));
      for (int k = 0; k < x.ask("count", 1); k++) solved.add(ends(x, "solved", k));
      for (int k = 0; k < x.ask("count", 2); k++) doubtful.add(ends(x, "doubtful", k));
      for (int k = 0; k < 30; k++) {
        int[] point = {inside(box[0] - 2 + random.nextInt(box[1] - box[0] + 5)), inside(box[2] - 2 + random.nextInt(box[3] - box[2] + 5))};
        int found = x.ask("find", point[0], point[1]);
        must("solved: " + told(e, box), (found & 2) != 0 == solved.stream().anyMatch(b -> holds(b, point)));
        must("doubtful: " + told(e, box), (found & 4) != 0 == doubtful.stream().anyMatch(b -> holds(b, point)));
        must("no root: " + told(e, box), (found & 8) != 0 == shown.stream().anyMatch(b -> holds(b, point)));
        must("no other number", found >= 0 && found < 16);
        if (!holds(box, point)) must("nothing is beyond the box: " + told(e, box), found == 0);
      }
    });
  }

  // ---- the text, what is kept

  /** A ! before any token is the first fault, as all before it can stand there. */
  private static void firstFault() {
    for (Equations e : ALL) {
      String text = e.text + "; least 5 ;box -3 40 - 7 8";
      for (int k = 0; k <= text.length(); k++) {
        boolean inRow = k > 0 && k < text.length() && Character.isLetterOrDigit(text.charAt(k)) && Character.isLetterOrDigit(text.charAt(k - 1));
        if (inRow || k % 3 != 0) continue;
        String broken = text.substring(0, k) + "!" + text.substring(k);
        new Talk().say(broken).due(k, "fault").due(NOT, "tell").due(0, "count", 10).due(0, "count", 0);
        // what stands behind it is not read any more
        new Talk().say(broken + "!!").due(k, "fault");
      }
      new Talk().say(text).due(NONE, "fault").due(text.split(";").length, "tell");
    }
  }

  private static void keptAndGoneBackTo() {
    for (Equations e : ALL) {
      Talk x = Talk.told(e.text + ";least 3;box -203 190 -200 201");
      int kept = x.ask("steps", 9);
      x.due(kept, "keep", 0);
      Consumer<List<Integer>> goOn = told -> {
        for (int k = 0; k < 3; k++) told.add(x.ask("steps", 20));
        for (int what = 0; what < 15; what++) told.add(x.ask("count", what));
        for (int what = 0; what < 4; what++) told.add(x.ask("solved", 0, what));
        for (int k = 5; k < 20; k++) for (int what = 0; what < 5; what++) told.add(x.ask("entry", k, what));
      };
      List<Integer> once = new ArrayList<>(), again = new ArrayList<>();
      goOn.accept(once);
      x.say("all;f 3 1 1;box 0 9 0 9").due(3, "tell").then("steps", 3).due(kept, "back", 0);
      goOn.accept(again);
      must("it goes on as it did: " + e.text, once.equals(again));
    }
  }
}
