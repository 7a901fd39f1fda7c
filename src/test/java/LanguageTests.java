import java.io.IOException;
import java.nio.charset.StandardCharsets;
import java.nio.file.Files;
import java.nio.file.Path;
import java.util.List;

/** The rules of LANGUAGE.md that can be seen in the program; first, that a breach of each would be seen. */
public final class LanguageTests {
  private static final Path PROGRAM = Path.of("src", "main", "java", "RootBoxes.java");

  /** A rule's number, and members of a class by which it is broken. */
  private static final String[][] BREACHES = {
      {"1", "public static final class A { }"},
      {"1", "} class B {"},
      {"2", "class A { }"},
      {"2", "void a() { class B { } }"},
      {"2", "Object a() { return new Object() { }; }"},
      {"2", "void a() { Runnable r = () -> { }; }"},
      {"2", "void a() { Runnable r = RootBoxes::b; } static void b() { }"},
      {"3", "java.util.HashMap<Integer, Integer> a;"},
      {"3", "Object a;"},
      {"3", "String[][] a;"},
      {"3", "int[][][] a;"},
      {"3", "long a() { Long b = 3L; return b; }"},
      {"4", "int a() { return Integer.parseInt(\"3\"); }"},
      {"4", "int a() { return Math.addExact(1, 2); }"},
      {"4", "long a() { return System.nanoTime(); }"},
      {"4", "int a(String b) { return b.hashCode(); }"},
      {"4", "double a(double b) { return Math.sqrt(b); }"},
      {"4", "String a = \"\u00e4\";"},
      {"5", "static int a = 3;"},
      {"5", "static final int[] A = new int[3];"},
      {"5", "static final StringBuilder A = new StringBuilder();"},
      {"5", "static { }"},
      {"6", "void a() { throw null; }"},
      {"6", "void a() { try { a(); } finally { } }"},
      {"6", "void a() { synchronized (this) { } }"},
      {"6", "void a(int b) { assert b > 0; }"},
      {"6", "boolean a(String b, String c) { return b == c; }"},
      {"6", "public String toString() { return \"\"; }"},
      {"6", "static class A { } static class B extends A { } B a(A b) { return (B) b; }"},
      {"7", "int a(int b) { return 3 / b; }"},
      {"7", "int a(int b) { return 3 % b; }"},
      {"7", "int a(int b) { int c = 3; c /= b; return c; }"},
      {"7", "int a(int b) { return Math.floorDiv(3, b); }"},
      {"7", "int a(int b) { int c = Math.floorMod(3, b); return b == 0 ? 0 : c; }"},
      {"7", "int a(int[] b, int c) { return b[c]; }"},
      {"8", "void a() { b(); } void b() { a(); }"},
      {"9", "void a() { while (true) { } }"},
      {"9", "void a() { for (;;) { } }"},
      {"9", "void a(boolean b) { do { } while (b); }"},
      {"10", "String a(String b) { return b + 1; }"},
      {"10", "String a(String b) { b += \"\"; return b; }"},
      {"10", "int a(String b) { switch (b) { case \"\": return 1; default: return 2; } }"},
      {"11", "void a(int b, int c, int d, int e, int f, int g, int h, int i) { }"},
      {"11", "void a() {" + "\n".repeat(60) + "}"},
      {"11", "void a() { b(); } void b() { c(); } void c() { d(); } void d() { e(); } void e() { f(); } void f() { g(); } void g() { h(); } void h() { i(); } void i() { }"},
      {"11", fields(21)},
      {"11", classes(12)},
      {"12", "static class A { A() { a(); } void a() { } }"},
      {"12", "static class A { A() { b(this); } static void b(A c) { } }"},
      {"12", "public RootBoxes() { A a = new A(this); } static class A { A(RootBoxes b) { } }"},
  };

  /** What the rules leave. */
  private static final String[] FINE = {
      "static final int[] A = {1, 2}; static final String B = \"b\"; static final class C { long d; }",
      "int a(int[] b, int c) { return c >= 0 && c < b.length ? b[c] : 0; }",
      "int a(int b) { return b == 0 ? 0 : 3 / b; } int c(int d) { return d % 64; }",
      "void a() { b(); } void b() { c(); } void c() { d(); } void d() { e(); } void e() { f(); } void f() { g(); } void g() { h(); } void h() { }",
      "void a(int b, int c, int d, int e, int f, int g, int h) { }",
      "void a() {" + "\n".repeat(59) + "}",
      fields(20),
      classes(11),
      "enum A { B, C } interface D { int e(int f); } record G(int h) { } int a(A b) { switch (b) { case B: return 1; default: return 2; } }",
      "java.util.ArrayList<Integer> a = new java.util.ArrayList<>(); int b() { return a.size() > 3 ? a.get(3) : 0; }",
  };

  private static int wrong = 0;

  public static void main(String[] args) throws IOException {
    for (String[] breach : BREACHES) {
      List<String> seen = Language.breaches("public final class RootBoxes { " + breach[1] + " }\n");
      must("a breach of rule " + breach[0] + " is seen in " + breach[1] + ": " + seen, seen.stream().anyMatch(s -> s.startsWith("rule " + breach[0] + ":")));
      must("it compiles: " + breach[1] + ": " + seen, seen.stream().noneMatch(s -> s.startsWith("does not compile")));
    }
    for (String fine : FINE) {
      List<String> seen = Language.breaches("public final class RootBoxes { " + fine + " }\n");
      must("no breach is seen in " + fine + ": " + seen, seen.isEmpty());
    }
    List<String> seen = Language.breaches(Files.readString(PROGRAM, StandardCharsets.UTF_8));
    for (String breach : seen) must("RootBoxes.java keeps " + breach, false);
    System.out.println(BREACHES.length + " breaches looked for in others, " + seen.size() + " in the program; " + wrong + " things not as due");
    if (wrong != 0) System.exit(1);
  }

  private static String fields(int how) {
    StringBuilder members = new StringBuilder();
    for (int k = 0; k < how; k++) members.append("int f").append(k).append("; ");
    return members.toString();
  }

  private static String classes(int how) {
    StringBuilder members = new StringBuilder();
    for (int k = 0; k < how; k++) members.append("static class C").append(k).append(" { } ");
    return members.toString();
  }

  private static void must(String what, boolean holds) {
    if (!holds) {
      wrong++;
      System.out.println("not so: " + what);
    }
  }
}
