import java.lang.reflect.Method;
import java.util.ArrayList;
import java.util.List;
import java.util.Map;
import java.util.Random;
import java.util.TreeMap;

/** Runs of calls, always the same ones, asked of the class and of the model: every answer must be alike. */
public final class ModelRuns {
  private static final int CALLS = 512;
  private static final int[] EXTREMES = {Integer.MIN_VALUE, Integer.MAX_VALUE, -1, 0, 1, 2, 3, 4, 5, 6, 14, 15, 20, 21, -20, -21,
      63, 64, 65, 199, 200, 255, 256, 512, 513, -512, -513, 1 << 30, -(1 << 30), RootBoxes.NONE};
  private static final String[] WORDS = {"all", "f", "g", "least", "box", ";", "-", "0", "1", "4", "5", "64", "65", "20", "21",
      "512", "513", "0001", "al", "fall", "F", "\t", "\u00e4", "\u0000", "  ", " "};

  private static final Map<String, Method> MODEL = methods(Model.class);
  private static final Map<String, Method> PROGRAM = methods(RootBoxes.class);
  private static final List<String> NAMES = new ArrayList<>(PROGRAM.keySet());
  private static final Map<String, Integer> SEEN = new TreeMap<>();

  private final Random random;
  private final RootBoxes program = new RootBoxes();
  private final Model model = new Model();
  private final List<String> asked = new ArrayList<>();
  private String wrong = null;

  private ModelRuns(long seed) { random = new Random(seed); }

  public static void main(String[] args) {
    int runs = args.length > 0 ? Integer.parseInt(args[0]) : 400;
    long from = args.length > 1 ? Long.parseLong(args[1]) : 1;
    int bad = 0;
    for (long seed = from; seed < from + runs; seed++) {
      ModelRuns run = new ModelRuns(seed);
      run.go();
      if (run.wrong != null) {
        bad++;
        System.out.println("run " + seed + ": " + run.wrong);
        List<String> last = run.asked.subList(Math.max(0, run.asked.size() - 60), run.asked.size());
        System.out.println("  after " + String.join(" ", last));
      }
    }
    if (args.length > 0) System.out.println(SEEN);
    System.out.println((runs - bad) + " runs like the model's, " + bad + " unlike");
    if (bad != 0) System.exit(1);
  }

  private static Map<String, Method> methods(Class<?> owner) {
    Map<String, Method> found = new TreeMap<>();
    for (Method m : owner.getDeclaredMethods()) {
      boolean isCall = m.getReturnType() == int.class && !java.lang.reflect.Modifier.isStatic(m.getModifiers())
          && !java.lang.reflect.Modifier.isPrivate(m.getModifiers());
      boolean whole = true;
      for (Class<?> type : m.getParameterTypes()) whole &= type == int.class;
      if (isCall && whole) found.put(m.getName(), m);
    }
    return found;
  }

  private boolean goesOn() { return wrong == null && asked.size() < CALLS; }

  private int ask(String name, int... args) {
    if (!goesOn()) return 0;
    Object[] boxed = new Object[args.length];
    StringBuilder call = new StringBuilder(name).append('(');
    for (int k = 0; k < args.length; k++) {
      boxed[k] = args[k];
      call.append(k == 0 ? "" : ",").append(args[k]);
    }
    asked.add(call.append(')').toString());
    try {
      int want = (Integer) MODEL.get(name).invoke(model, boxed);
      int got = (Integer) PROGRAM.get(name).invoke(program, boxed);
      if (got != want) wrong = call + " answered " + got + ", due is " + want;
      String kind = want <= Model.NONE && want >= Model.FULL ? "" + want : name.equals("step") || name.equals("verdict") ? "" + want : "ok";
      SEEN.merge(name + ":" + kind, 1, Integer::sum);
      return want;
    } catch (ReflectiveOperationException e) {
      wrong = call + " threw " + e.getCause();
      return 0;
    }
  }

  private void go() {
    while (goesOn()) {
      switch (random.nextInt(15)) {
        case 0 -> system();
        case 1 -> search(between(-8, 8) * 64, between(-8, 8) * 64);
        case 2, 3, 4, 11 -> rooted();
        case 5 -> look(between(-512, 512), between(-512, 512));
        case 6 -> text();
        case 7 -> wild();
        case 8 -> keeping();
        case 9 -> change();
        default -> questions();
      }
    }
  }

  private int between(int from, int to) { return from + random.nextInt(to - from + 1); }

  private static int inside(int end) { return Math.max(-512, Math.min(512, end)); }

  private int factor() { return random.nextInt(3) == 0 ? between(-20, 20) : between(-3, 3); }

  private void change() {
    int i = between(0, 4);
    ask("put", between(0, 1), i, between(0, 4 - i), factor());
  }

  /** Clears both and gives them a few terms, often such as have common roots within the box. */
  private void system() {
    for (char c : "all".toCharArray()) ask("write", c);
    if (random.nextInt(3) != 0) ask("tell");
    else ask("erase");
    int terms = between(0, 9);
    for (int k = 0; k < terms; k++) change();
    if (random.nextBoolean()) {
      ask("put", 0, 1, 0, between(-2, 2));
      ask("put", 1, 0, 1, between(-2, 2));
    }
    if (random.nextInt(4) == 0) {
      ask("put", 0, 2, 0, 1);
      ask("put", 0, 0, 2, between(0, 3));
      ask("put", 0, 0, 0, between(-9, 0));
      ask("put", 1, 1, 1, between(-3, 3));
    }
  }

  /** Two polynomials that are 0 at one point of whole numbers, and looks and searches around that point. */
  private void rooted() {
    system();
    int x = between(-2, 2), y = between(-2, 2);
    for (int p = 0; p < 2; p++) {
      int sum = 0;
      for (int i = 0; i <= 4; i++) for (int j = 0; i + j <= 4; j++) {
        if (i + j > 0) sum += model.term(p, i, j) * (int) Math.pow(x, i) * (int) Math.pow(y, j);
      }
      if (Math.abs(sum) <= 20) ask("put", p, 0, 0, -sum);
    }
    look(64 * x + between(-6, 6), 64 * y + between(-6, 6));
    look(64 * x + between(-2, 2), 64 * y + between(-2, 2));
    search(64 * x + between(-12, 12), 64 * y + between(-12, 12));
  }

  private void search(int x, int y) {
    if (random.nextInt(3) != 0) ask("least", random.nextBoolean() ? between(1, 6) : between(1, 64));
    if (random.nextInt(4) == 0) ask("begin", -512, 512, -512, 512);
    else {
      int w = random.nextBoolean() ? 300 : 20;
      ask("begin", inside(x - between(1, w)), inside(x + between(1, w)), inside(y - between(1, w)), inside(y + between(1, w)));
    }
    int rounds = between(1, 14);
    for (int k = 0; k < rounds && model.count(0) > 0; k++) {
      if (random.nextInt(3) == 0) ask("step");
      else ask("steps", between(1, 20));
      if (random.nextInt(4) == 0) ask("first", between(0, 3));
    }
    questions();
  }

  private void questions() {
    int questions = between(1, 12);
    for (int k = 0; k < questions; k++) {
      switch (random.nextInt(8)) {
        case 0 -> ask("solved", between(0, model.count(1)), between(0, 3));
        case 1 -> ask("doubtful", between(0, model.count(2)), between(0, 3));
        case 2 -> ask("entry", between(0, model.count(3)), between(0, 5));
        case 3 -> ask("find", between(-512, 512), between(-512, 512));
        case 4 -> ask("find", between(-8, 8) * 64, between(-8, 8) * 64);
        case 5 -> ask(random.nextInt(3) == 0 ? "broken" : "step");
        case 6 -> ask("first", between(0, 3));
        default -> ask("count", between(0, 14));
      }
    }
  }

  private void look(int a, int c) {
    int w = random.nextBoolean() ? 10 : random.nextBoolean() ? 0 : 100;
    ask("hold", inside(a - between(0, w)), inside(a + between(0, w)), inside(c - between(0, w)), inside(c + between(0, w)));
    ask("verdict");
    for (int what = 0; what < 6; what++) ask("fence", what);
    ask("value", between(0, 1), between(0, 1));
    ask("slope", between(0, 1), between(0, 1), between(0, 1));
    ask("sign", between(0, 1), a, c);
  }

  private void keeping() {
    int k = between(0, 1);
    ask(random.nextBoolean() ? "keep" : "back", k);
    if (random.nextInt(3) == 0) {
      change();
      ask("broken");
      ask("back", k);
    }
  }

  private void text() {
    if (random.nextBoolean()) ask("erase");
    StringBuilder said = new StringBuilder();
    int clauses = random.nextInt(12) == 0 ? between(22, 27) : between(1, 3);
    for (int k = 0; k < clauses; k++) said.append(k == 0 ? "" : ";").append(clauses > 20 ? "all" : clause());
    if (random.nextBoolean()) {
      int at = random.nextInt(said.length() + 1);
      String word = WORDS[random.nextInt(WORDS.length)];
      if (random.nextBoolean()) said.insert(at, word);
      else said.replace(at, Math.min(said.length(), at + 1 + random.nextInt(3)), word);
    }
    for (char c : said.toString().toCharArray()) ask("write", c);
    ask("fault");
    ask("tell");
  }

  private String gap() { return " ".repeat(random.nextInt(3)); }

  private String number(int from, int to) {
    int n = random.nextInt(12) == 0 ? to + 1 : between(from, to);
    return n < 0 ? "-" + gap() + -n : random.nextInt(30) == 0 ? "0" + n : "" + n;
  }

  private String clause() {
    return switch (random.nextInt(5)) {
      case 0 -> gap() + "all" + gap();
      case 1 -> "least" + gap() + number(1, 64);
      case 2 -> {
        int a = between(-512, 500), c = between(-512, 500);
        yield "box " + number(a, a) + " " + number(a, 512) + " " + number(c, c) + " " + number(c, 512);
      }
      default -> (random.nextBoolean() ? "f" : "g") + gap() + number(-20, 20) + " " + number(0, 4) + " " + number(0, 2) + gap();
    };
  }

  private void wild() {
    int calls = between(1, 10);
    for (int k = 0; k < calls; k++) {
      String name = NAMES.get(random.nextInt(NAMES.size()));
      int[] args = new int[PROGRAM.get(name).getParameterCount()];
      for (int a = 0; a < args.length; a++) {
        args[a] = random.nextInt(3) == 0 ? random.nextInt() : random.nextInt(3) == 0 ? between(-600, 600) : EXTREMES[random.nextInt(EXTREMES.length)];
      }
      ask(name, args);
    }
  }
}
