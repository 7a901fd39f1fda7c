import java.lang.reflect.Constructor;
import java.lang.reflect.Field;
import java.lang.reflect.Method;
import java.lang.reflect.Modifier;
import java.util.List;
import java.util.Map;
import java.util.TreeMap;

/** The public face, just as the document has it (rule 1 of LANGUAGE.md). */
public final class FaceTests {
  private static final Map<String, Integer> CALLS = new TreeMap<>(Map.ofEntries(Map.entry("write", 1), Map.entry("erase", 0),
      Map.entry("fault", 0), Map.entry("tell", 0), Map.entry("put", 4), Map.entry("term", 3), Map.entry("sign", 3),
      Map.entry("hold", 4), Map.entry("value", 2), Map.entry("slope", 3), Map.entry("fence", 1), Map.entry("verdict", 0),
      Map.entry("begin", 4), Map.entry("least", 1), Map.entry("step", 0), Map.entry("steps", 1), Map.entry("first", 1),
      Map.entry("solved", 2), Map.entry("doubtful", 2), Map.entry("entry", 2), Map.entry("broken", 0), Map.entry("find", 2),
      Map.entry("keep", 1), Map.entry("back", 1), Map.entry("count", 1)));
  private static final Map<String, Integer> CONSTANTS = new TreeMap<>(Map.of("NONE", -1000000001, "UNKNOWN", -1000000002,
      "OUTSIDE", -1000000003, "NOT", -1000000004, "FULL", -1000000005));

  private static int wrong = 0;

  private static void must(String what, boolean holds) {
    if (!holds) {
      wrong++;
      System.out.println("not so: " + what);
    }
  }

  public static void main(String[] args) throws Exception {
    face();
    for (Class<?> inner : RootBoxes.class.getDeclaredClasses()) inner(inner);
    System.out.println(wrong == 0 ? "the face is as due" : wrong + " things are not as due");
    if (wrong != 0) System.exit(1);
  }

  private static void face() throws IllegalAccessException {
    int modifiers = RootBoxes.class.getModifiers();
    must("public final class", Modifier.isPublic(modifiers) && Modifier.isFinal(modifiers));
    Constructor<?>[] made = RootBoxes.class.getDeclaredConstructors();
    must("one public constructor", made.length == 1 && Modifier.isPublic(made[0].getModifiers()) && made[0].getParameterCount() == 0);
    Map<String, Integer> calls = new TreeMap<>();
    for (Method m : RootBoxes.class.getDeclaredMethods()) {
      if (Modifier.isPrivate(m.getModifiers())) {
        must("private " + m.getName() + " bears no public name", !CALLS.containsKey(m.getName()));
        continue;
      }
      must(m.getName() + " is public, of ints, no static one", Modifier.isPublic(m.getModifiers()) && !Modifier.isStatic(m.getModifiers())
          && m.getReturnType() == int.class && List.of(m.getParameterTypes()).stream().allMatch(t -> t == int.class));
      must(m.getName() + " is there once", calls.put(m.getName(), m.getParameterCount()) == null);
    }
    must("the document's 25 methods: " + calls, calls.equals(CALLS) && calls.size() == 25);
    Map<String, Integer> constants = new TreeMap<>();
    for (Field f : RootBoxes.class.getDeclaredFields()) {
      if (!Modifier.isPrivate(f.getModifiers())) {
        must(f.getName() + " is a constant", Modifier.isPublic(f.getModifiers()) && Modifier.isFinal(f.getModifiers()) && f.getType() == int.class);
        constants.put(f.getName(), f.getInt(null));
      }
    }
    must("the document's constants: " + constants, constants.equals(CONSTANTS));
  }

  private static void inner(Class<?> inner) {
    int modifiers = inner.getModifiers();
    must(inner + " is static, and not public or protected", Modifier.isStatic(modifiers) && !Modifier.isPublic(modifiers) && !Modifier.isProtected(modifiers));
    for (Method m : inner.getDeclaredMethods()) {
      must(inner + "'s " + m.getName() + " bears no public name", !CALLS.containsKey(m.getName()));
    }
  }
}
