import java.io.File;
import java.io.IOException;
import java.lang.reflect.Method;
import java.lang.reflect.Modifier;
import java.net.URL;
import java.net.URLClassLoader;
import java.nio.charset.StandardCharsets;
import java.nio.file.Files;
import java.nio.file.Path;
import java.util.ArrayList;
import java.util.Comparator;
import java.util.List;
import java.util.Set;
import java.util.TreeSet;
import java.util.regex.Matcher;
import java.util.regex.Pattern;
import java.util.stream.Stream;
import javax.tools.ToolProvider;

/** The runs that README.md gives to copy: they compile as they stand, and each call answers what is told behind it. */
public final class ReadmeTests {
  private static final Path README = Path.of("README.md");
  private static final Pattern BLOCK = Pattern.compile("(?s)```java\n(.*?)```");
  private static final Pattern CALL = Pattern.compile("r\\.(\\w+)\\((.*)\\);\\s+// (-?\\d+|[A-Z]+)(?:: .*)?");
  private static final int MOST_CALLS = 512;

  private static int wrong = 0;
  private static int asked = 0;

  public static void main(String[] args) throws Exception {
    String page = Files.readString(README, StandardCharsets.UTF_8);
    Matcher blocks = BLOCK.matcher(page);
    Set<String> shown = new TreeSet<>();
    List<String> answers = new ArrayList<>();
    int runs = 0;
    while (blocks.find()) run(++runs, blocks.group(1), shown, answers);
    must("there are runs to copy", runs > 0);
    for (String refusal : List.of("UNKNOWN", "OUTSIDE", "NOT", "FULL", "NONE")) {
      must("a run shows what answers " + refusal, answers.contains(refusal));
      must("the page tells " + refusal, page.contains("`" + refusal + "`") && page.contains("" + constant(refusal)));
    }
    for (Method call : RootBoxes.class.getDeclaredMethods()) {
      if (Modifier.isPublic(call.getModifiers())) must("a run shows " + call.getName(), shown.contains(call.getName()));
    }
    must("how to run its tests", page.contains("bash .ci/run"));
    everyTestIsNamed(page);
    System.out.println(runs + " runs of " + shown.size() + " kinds of calls, " + asked + " things asked for, " + wrong + " not as told");
    if (wrong != 0) System.exit(1);
  }

  private static void must(String what, boolean holds) {
    asked++;
    if (!holds) {
      wrong++;
      System.out.println("README.md: not so: " + what);
    }
  }

  private static int constant(String name) throws ReflectiveOperationException { return RootBoxes.class.getField(name).getInt(null); }

  private static void everyTestIsNamed(String page) throws IOException {
    try (Stream<Path> tests = Files.list(Path.of("src", "test", "java"))) {
      for (Path test : tests.sorted().toList()) {
        String name = test.getFileName().toString().replace(".java", "");
        boolean isTest = Files.readString(test, StandardCharsets.UTF_8).contains("public static void main");
        must("the page names " + name, !isTest || page.contains("`" + name + "`"));
      }
    }
  }

  /** Keeps the lines as they are; behind a line whose answer is told stands a call that has it compared. */
  private static void run(int number, String block, Set<String> shown, List<String> answers) throws Exception {
    StringBuilder body = new StringBuilder();
    int calls = 0;
    for (String line : block.split("\n")) {
      Matcher m = CALL.matcher(line.trim());
      boolean isCall = m.matches();
      must("the answer is told behind " + line, isCall || !line.trim().startsWith("r."));
      if (isCall) {
        calls++;
        shown.add(m.group(1));
        answers.add(m.group(3));
        String want = m.group(3).matches("[A-Z]+") ? "RootBoxes." + m.group(3) : m.group(3);
        body.append("told.add(\"").append(m.group(1)).append("(").append(m.group(2).replace("\"", "'")).append(")\");\n");
        body.append("told.add(r.").append(m.group(1)).append("(").append(m.group(2)).append("));\ntold.add(").append(want).append(");\n");
      } else {
        body.append(line).append("\n");
      }
    }
    must("run " + number + " has calls, and not too many", calls > 0 && calls < MOST_CALLS / 2);
    List<?> told = told("Readme" + number, body.toString());
    must("run " + number + " compiles and comes to its end", told.size() == 3 * calls);
    for (int k = 0; k + 2 < told.size(); k += 3) {
      must("run " + number + ": " + told.get(k) + " answers " + told.get(k + 2) + " (" + told.get(k + 1) + ")", told.get(k + 1).equals(told.get(k + 2)));
    }
  }

  private static List<?> told(String name, String body) throws Exception {
    Path folder = Files.createTempDirectory("readme");
    try {
      Path source = folder.resolve(name + ".java");
      Files.writeString(source, "public final class " + name + " {\n  public static void tell(java.util.List<Object> told) {\n" + body + "  }\n}\n",
          StandardCharsets.UTF_8);
      String classes = System.getProperty("java.class.path");
      int code = ToolProvider.getSystemJavaCompiler().run(null, null, null, "-encoding", "UTF-8", "-cp", classes + File.pathSeparator + folder,
          "-d", folder.toString(), source.toString());
      List<Object> told = new ArrayList<>();
      if (code != 0) return told;
      try (URLClassLoader loader = new URLClassLoader(new URL[] {folder.toUri().toURL()}, ReadmeTests.class.getClassLoader())) {
        loader.loadClass(name).getMethod("tell", List.class).invoke(null, told);
      }
      return told;
    } finally {
      clear(folder);
    }
  }

  private static void clear(Path folder) throws IOException {
    try (Stream<Path> all = Files.walk(folder)) {
      for (Path path : all.sorted(Comparator.reverseOrder()).toList()) Files.delete(path);
    }
  }
}
