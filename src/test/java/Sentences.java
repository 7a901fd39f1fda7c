import java.io.IOException;
import java.nio.charset.StandardCharsets;
import java.nio.file.Files;
import java.nio.file.Path;

/** What the tests of single sentences share: each stands under the document's own words, and is told by them if it fails. */
final class Sentences {
  private static final Path DOCUMENT = Path.of("..", "shared", "DOC.md");
  private static final String DOCUMENT_WORDS = documentWords();

  private static String words = "";
  private static int sentences = 0;
  private static int asked = 0;
  private static int wrong = 0;
  private static int wrongHere = 0;

  private Sentences() { }

  private static String documentWords() {
    try {
      return oneLine(new String(Files.readAllBytes(DOCUMENT), StandardCharsets.UTF_8));
    } catch (IOException e) {
      return null;
    }
  }

  private static String oneLine(String text) { return text.replaceAll("\\s+", " "); }

  static void sentence(String itsWords, Runnable test) {
    words = itsWords;
    sentences++;
    wrongHere = 0;
    if (DOCUMENT_WORDS != null && !DOCUMENT_WORDS.contains(oneLine(itsWords))) wrong("the document does not say this");
    int before = asked;
    test.run();
    if (asked == before) wrong("nothing was asked");
  }

  /** Tells the first few of a sentence: more would only hide the other sentences. */
  static void wrong(String what) {
    wrong++;
    wrongHere++;
    if (wrongHere <= 3) System.out.println("\"" + words + "\": " + what);
  }

  static void must(String what, boolean holds) {
    asked++;
    if (!holds) wrong(what);
  }

  static void end() {
    System.out.println(sentences + " sentences, " + asked + " answers asked for, " + wrong + " not as due");
    if (wrong != 0) System.exit(1);
  }
}
