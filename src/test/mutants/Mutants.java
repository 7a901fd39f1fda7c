import java.io.IOException;
import java.nio.charset.StandardCharsets;
import java.nio.file.Files;
import java.nio.file.Path;
import java.util.ArrayList;
import java.util.Comparator;
import java.util.List;
import java.util.concurrent.ExecutorService;
import java.util.concurrent.Executors;
import java.util.concurrent.Future;
import java.util.concurrent.TimeUnit;
import java.util.regex.Matcher;
import java.util.regex.Pattern;
import java.util.stream.Collectors;
import java.util.stream.Stream;

/**
 * Breaks RootBoxes one sentence at a time, as mutants.txt tells, and asks whether that sentence's own test fails then.
 * Run from the root of the project: java src/test/mutants/Mutants.java
 */
public final class Mutants {
  private static final Path TESTS = Path.of("src", "test", "java");
  private static final Path PROGRAM = Path.of("src", "main", "java", "RootBoxes.java");
  private static final Path TABLE = Path.of("src", "test", "mutants", "mutants.txt");
  private static final List<String> GROUPS = List.of("WhatItIsSentences", "TextSentences", "BoxSentences", "SearchSentences", "RefusalSentences");
  private static final int MOST_SECONDS = 60;

  private record Mutant(String words, String stands, String instead) { }

  public static void main(String[] args) throws Exception {
    String program = Files.readString(PROGRAM, StandardCharsets.UTF_8);
    Path work = Files.createTempDirectory("mutants");
    Path tests = Files.createDirectory(work.resolve("tests"));
    compile(tests, Stream.concat(Stream.of(PROGRAM, TESTS.resolve("Talk.java"), TESTS.resolve("Sentences.java")),
        GROUPS.stream().map(name -> TESTS.resolve(name + ".java"))).collect(Collectors.toList()));
    ExecutorService workers = Executors.newFixedThreadPool(Runtime.getRuntime().availableProcessors());
    List<Mutant> mutants = read();
    List<Future<String>> outcomes = new ArrayList<>();
    for (int k = 0; k < mutants.size(); k++) {
      Mutant mutant = mutants.get(k);
      Path folder = work.resolve("mutant" + k);
      outcomes.add(workers.submit(() -> outcome(mutant, program, folder, tests)));
    }
    int alive = 0;
    for (int k = 0; k < mutants.size(); k++) {
      String outcome = outcomes.get(k).get();
      if (outcome != null) {
        alive++;
        System.out.println(outcome + ": \"" + mutants.get(k).words + "\"\n  - " + mutants.get(k).stands + "\n  + " + mutants.get(k).instead);
      }
    }
    workers.shutdown();
    clear(work);
    System.out.println(mutants.size() + " ways to break a sentence, " + alive + " not seen by its own test");
    if (alive != 0) System.exit(1);
  }

  private static List<Mutant> read() throws IOException {
    List<Mutant> mutants = new ArrayList<>();
    String words = "", stands = "";
    for (String line : Files.readAllLines(TABLE, StandardCharsets.UTF_8)) {
      String rest = line.length() > 2 ? line.substring(2) : "";
      if (line.startsWith("=")) words = rest;
      if (line.startsWith("-")) stands = rest;
      if (line.startsWith("+")) mutants.add(new Mutant(words, stands, rest));
    }
    return mutants;
  }

  /** Null: the sentence's own test has failed, as it must. */
  private static String outcome(Mutant mutant, String program, Path folder, Path tests) throws Exception {
    String group = groupOf(mutant.words);
    if (group == null) return "no test has these words";
    Pattern stands = Pattern.compile(Stream.of(mutant.stands.split(" ")).map(Pattern::quote).collect(Collectors.joining("\\s+")));
    Matcher found = stands.matcher(program);
    if (!found.find()) return "the program has no such lines any more";
    String broken = program.substring(0, found.start()) + mutant.instead + program.substring(found.end());
    Files.createDirectory(folder);
    Path source = folder.resolve("RootBoxes.java");
    Files.writeString(source, broken, StandardCharsets.UTF_8);
    if (!compile(folder, List.of(source))) return "does not compile";
    Path said = folder.resolve("said");
    Process run = new ProcessBuilder("java", "-XX:TieredStopAtLevel=1", "-cp", folder + java.io.File.pathSeparator + tests, group)
        .redirectErrorStream(true).redirectOutput(said.toFile()).start();
    if (!run.waitFor(MOST_SECONDS, TimeUnit.SECONDS)) {
      run.destroyForcibly();
      return null;
    }
    boolean seen = Files.readAllLines(said, StandardCharsets.UTF_8).stream().anyMatch(line -> line.startsWith("\"" + mutant.words));
    return seen ? null : run.exitValue() == 0 ? "seen by no test of its group" : "seen by tests of other sentences alone";
  }

  private static String groupOf(String words) throws IOException {
    for (String group : GROUPS) {
      if (Files.readString(TESTS.resolve(group + ".java"), StandardCharsets.UTF_8).contains("sentence(\"" + words)) return group;
    }
    return null;
  }

  private static boolean compile(Path to, List<Path> sources) throws Exception {
    List<String> command = new ArrayList<>(List.of("javac", "-encoding", "UTF-8", "--release", "17", "-d", to.toString()));
    for (Path source : sources) command.add(source.toString());
    return new ProcessBuilder(command).redirectErrorStream(true).redirectOutput(ProcessBuilder.Redirect.DISCARD).start().waitFor() == 0;
  }

  private static void clear(Path folder) throws IOException {
    try (Stream<Path> all = Files.walk(folder)) {
      for (Path path : all.sorted(Comparator.reverseOrder()).collect(Collectors.toList())) Files.delete(path);
    }
  }
}
