import java.nio.charset.StandardCharsets;
import java.util.NoSuchElementException;

/** What the tests share: rows of due answers, refusals told by name, and texts brought on the tape. */
public final class Bench {
  public interface Call { long go(); }

  public static final String MISSING = "throws.NoSuchElementException";
  public static final String WRONG = "throws.IllegalArgumentException";

  private static int wrong = 0;
  private static int rows = 0;

  private Bench() { }

  /** The answer of a call as a text; of a refusal its exception's name. */
  public static String answer(Call call) {
    try {
      return Long.toString(call.go());
    } catch (RuntimeException e) {
      return "throws." + e.getClass().getSimpleName();
    }
  }

  public static void due(String what, Call call, long want) {
    due(what, answer(call), Long.toString(want));
  }

  public static void missing(String what, Call call) { due(what, answer(call), MISSING); }

  public static void wrong(String what, Call call) { due(what, answer(call), WRONG); }

  public static void due(String what, String got, String want) {
    rows++;
    if (!got.equals(want)) {
      wrong++;
      System.out.println(what + " answered " + got + ", due is " + want);
    }
  }

  public static void end(String name) {
    System.out.println(name + ": " + rows + " rows, " + wrong + " not as due");
    if (wrong != 0) System.exit(1);
  }

  /** Brings the text on the tape behind what is there; the last twenty bytes are filled with zeros. */
  public static int bring(NumberSpeech x, String text) {
    byte[] bytes = text.getBytes(StandardCharsets.ISO_8859_1);
    for (int i = 0; i < bytes.length; i += 20) {
      x.feed(word(bytes, i), word(bytes, i + 4), word(bytes, i + 8), word(bytes, i + 12), word(bytes, i + 16));
    }
    return bytes.length;
  }

  private static int word(byte[] bytes, int from) {
    int word = 0;
    for (int i = from; i < from + 4; i++) word = word << 8 | (i < bytes.length ? bytes[i] & 255 : 0);
    return word;
  }

  /** Brings a text on an empty tape and takes it. */
  public static int text(NumberSpeech x, String text) { return x.text(bring(x, text)); }

  public static int more(NumberSpeech x, String text) { return x.more(bring(x, text)); }

  /** Empties the tape (by a fault at its start). */
  public static void empty(NumberSpeech x) { x.text(0); }

  /** What a number is said, read byte by byte; null if it is silent. */
  public static String said(NumberSpeech x, int language, int n) {
    if (x.said(language, n, 0) == NumberSpeech.NONE) return null;
    StringBuilder text = new StringBuilder();
    for (int k = 0; k < x.said(language, n, 0); k++) text.append((char) x.at(language, n, k));
    return text.toString();
  }

  public static void dueSaid(NumberSpeech x, int language, int n, String want) {
    due("what is said of " + n + " in " + language, String.valueOf(said(x, language, n)), String.valueOf(want));
  }

  public static void dueFault(String text, int kind, int place) {
    NumberSpeech x = new NumberSpeech();
    due("text \"" + text + "\"", () -> text(x, text), kind - 10);
    due("fault of \"" + text + "\"", () -> x.fault(), place);
    due("rules of \"" + text + "\"", () -> x.told(3) + x.told(4), 0);
    due("to take back of \"" + text + "\"", () -> x.told(2), 0);
    due("tape of \"" + text + "\"", () -> x.told(1), 0);
  }
}
