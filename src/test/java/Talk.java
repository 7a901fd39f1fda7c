import java.lang.reflect.InvocationTargetException;
import java.lang.reflect.Method;
import java.util.Map;
import java.util.TreeMap;

/** One object, asked by the names of its calls. It counts them: what an object answers after 512 calls is free. */
final class Talk {
  static final int NONE = -1000000001, UNKNOWN = -1000000002, OUTSIDE = -1000000003, NOT = -1000000004, FULL = -1000000005;
  private static final int MOST_CALLS = 512;
  private static final Map<String, Method> CALLS = calls();

  private final RootBoxes asked = new RootBoxes();
  private int calls = 0;

  private static Map<String, Method> calls() {
    Map<String, Method> found = new TreeMap<>();
    for (Method m : RootBoxes.class.getMethods()) if (m.getDeclaringClass() == RootBoxes.class) found.put(m.getName(), m);
    return found;
  }

  int ask(String name, int... args) {
    calls++;
    if (calls > MOST_CALLS) throw new IllegalStateException("a test asks one object more than " + MOST_CALLS + " times");
    Object[] boxed = new Object[args.length];
    for (int k = 0; k < args.length; k++) boxed[k] = args[k];
    try {
      return (Integer) CALLS.get(name).invoke(asked, boxed);
    } catch (InvocationTargetException e) {
      Sentences.wrong(call(name, args) + " threw " + e.getCause());
      return 0;
    } catch (IllegalAccessException e) {
      throw new IllegalStateException(e);
    }
  }

  Talk due(int want, String name, int... args) {
    int got = ask(name, args);
    Sentences.must(call(name, args) + " answered " + got + ", due is " + want, got == want);
    return this;
  }

  /** Of a call that answers the ends of a box when asked for 0 .. 3. */
  Talk dueBox(String name, int a, int b, int c, int d) {
    return due(a, name, 0).due(b, name, 1).due(c, name, 2).due(d, name, 3);
  }

  Talk dueBox(String name, int number, int a, int b, int c, int d) {
    return due(a, name, number, 0).due(b, name, number, 1).due(c, name, number, 2).due(d, name, number, 3);
  }

  /** For calls whose answer is not what is tested. */
  Talk then(String name, int... args) {
    ask(name, args);
    return this;
  }

  Talk say(String text) {
    ask("erase");
    for (char letter : text.toCharArray()) ask("write", letter);
    return this;
  }

  static Talk told(String text) {
    int clauses = text.split(";").length;
    return new Talk().say(text).due(clauses, "tell");
  }

  /**
   * Polynomials x x and -2 y, LEAST 7, 8 entries, of their boxes 3 open, 1 solved, 1 doubtful; one box held. Kept: as 0 the
   * 4 entries with x - 1, y - 1 and LEAST 4; as 1 all as it is, but no terms of polynomial 1.
   */
  static Talk busy() {
    Talk x = told("box 0 512 0 128").due(5, "step").due(5, "step");
    x.say("f 1 1 0;f -1 0 0;g 1 0 1;g -1 0 0").due(4, "tell").due(0, "step").due(3, "step").due(4, "keep", 0);
    x.say("f 0 1 0;f 0 0 0;g 0 0 1;g 0 0 0;least 64").due(5, "tell").due(4, "steps", 4);
    x.due(3, "count", 0).due(1, "count", 1).due(1, "count", 2).due(8, "count", 3);
    x.due(0, "put", 0, 2, 0, 1).due(64, "least", 7).due(8, "keep", 1);
    return x.due(0, "put", 1, 0, 1, -2).due(4, "hold", 1, 2, 3, 7);
  }

  private static String call(String name, int... args) {
    StringBuilder call = new StringBuilder(name).append('(');
    for (int k = 0; k < args.length; k++) call.append(k == 0 ? "" : ", ").append(args[k]);
    return call.append(')').toString();
  }
}
