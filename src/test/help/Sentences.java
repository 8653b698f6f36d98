import java.io.IOException;
import java.nio.charset.StandardCharsets;
import java.nio.file.Files;
import java.nio.file.Path;
import java.util.ArrayList;
import java.util.LinkedHashSet;
import java.util.List;
import java.util.Set;

/**
 * Sentences of the document that name a boundary case, each with a test of its own (the classes BoundsOf..).
 * A sentence is told by where it stands (its promise, or "Terms", "2", "3": the Terms' parts) and by its words.
 */
public final class Sentences {
  public interface Test { void run() throws Exception; }

  private static final Path DOCUMENT = Path.of("../shared/DOC.md");

  /** One sentence alone is tested, if this names it: src/test/mutants asks for that. */
  public static String only = null;
  public static final Set<String> all = new LinkedHashSet<>();
  public static final List<String> broken = new ArrayList<>();
  private static String document = null;

  private Sentences() { }

  public static void holds(String where, String words, Test test) {
    String sentence = where + " | " + words;
    if (!all.add(sentence)) throw new IllegalStateException("two tests of " + sentence);
    if (only != null && !only.equals(sentence)) return;
    int before = Bench.wrongRows();
    if (only == null) Bench.due("the words of " + sentence + " stand in the document", String.valueOf(stands(words)), "true");
    try {
      test.run();
    } catch (Throwable e) {
      Bench.due(sentence, e.toString(), "all that the test asks");
    }
    if (Bench.wrongRows() == before) return;
    broken.add(sentence);
    System.out.println("BROKEN: " + sentence);
  }

  private static boolean stands(String words) {
    try {
      if (document == null) document = Files.readString(DOCUMENT, StandardCharsets.UTF_8);
      return document.contains(words);
    } catch (IOException e) {
      System.out.println("no document at " + DOCUMENT.toAbsolutePath().normalize() + ": its words were not looked up");
      document = "";
      return true;
    }
  }
}
