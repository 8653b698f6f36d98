import java.nio.charset.StandardCharsets;
import java.util.NoSuchElementException;

/** What the tests share: rows of due answers, refusals told by name, and texts brought on the tape. */
public final class Bench {
  public interface Call { long go(); }

  public interface IntCall { int go(int argument); }

  public static final String MISSING = "throws.NoSuchElementException";
  public static final String WRONG = "throws.IllegalArgumentException";

  private static int wrong = 0;
  private static int rows = 0;

  private Bench() { }

  /** The answer of a call as a text; of a refusal its exception's name. */
  public static String answer(Call call) {
    try {
      return Long.toString(call.go());
    } catch (RuntimeException e) {
      return "throws." + e.getClass().getSimpleName();
    }
  }

  public static void due(String what, Call call, long want) {
    due(what, answer(call), Long.toString(want));
  }

  public static void missing(String what, Call call) { due(what, answer(call), MISSING); }

  public static void wrong(String what, Call call) { due(what, answer(call), WRONG); }

  public static void due(String what, String got, String want) {
    rows++;
    if (!got.equals(want)) {
      wrong++;
      System.out.println(what + " answered " + got + ", due is " + want);
    }
  }

  public static int wrongRows() { return wrong; }

  /** A row of answers, for what 0, 1 ..; the what's ahead of these and behind them are refused. */
  public static void dueRow(String what, IntCall call, int... due) {
    for (int i = 0; i < due.length; i++) {
      int w = i;
      due(what + " " + i, () -> call.go(w), due[i]);
    }
    for (int w : new int[] {due.length, -1, Integer.MAX_VALUE, Integer.MIN_VALUE}) wrong(what + " of what " + w, () -> call.go(w));
  }

  public static void end(String name) {
    System.out.println(name + ": " + rows + " rows, " + wrong + " not as due");
    if (wrong != 0) System.exit(1);
  }

  /** Brings the text on the tape behind what is there; the last twenty bytes are filled with zeros. */
  public static int bring(NumberSpeech x, String text) {
    byte[] bytes = text.getBytes(StandardCharsets.ISO_8859_1);
    for (int i = 0; i < bytes.length; i += 20) {
      x.feed(word(bytes, i), word(bytes, i + 4), word(bytes, i + 8), word(bytes, i + 12), word(bytes, i + 16));
    }
    return bytes.length;
  }

  private static int word(byte[] bytes, int from) {
    int word = 0;
    for (int i = from; i < from + 4; i++) word = word << 8 | (i < bytes.length ? bytes[i] & 255 : 0);
    return word;
  }

  /** Brings a text on an empty tape and takes it. */
  public static int text(NumberSpeech x, String text) { return x.text(bring(x, text)); }

  public static int more(NumberSpeech x, String text) { return x.more(bring(x, text)); }

  /** Empties the tape (by a fault at its start). */
  public static void empty(NumberSpeech x) { x.text(0); }

  /** Brings a text on the tape in place of what is there. */
  public static int tape(NumberSpeech x, String text) {
    empty(x);
    return bring(x, text);
  }

  /** Takes these rules, by as many texts as they need; how many there are then. */
  public static int rules(NumberSpeech x, int language, String rules) {
    String head = "language " + language + ";";
    StringBuilder text = new StringBuilder(head);
    if (x.told(1) != 0) empty(x);
    int taken;
    boolean first = true;
    for (String rule : rules.split("(?<=;)")) {
      if (text.length() + rule.length() > 400) {
        if (first) text(x, text.toString());
        else more(x, text.toString());
        first = false;
        text.setLength(head.length());
      }
      text.append(rule);
    }
    taken = first ? text(x, text.toString()) : more(x, text.toString());
    due("rules of language " + language + " by " + rules, String.valueOf(taken), String.valueOf(rules.chars().filter(c -> c == ';').count()));
    return taken;
  }

  /** A new object with these rules of languages 0 and 1. */
  public static NumberSpeech by(String zero, String one) {
    NumberSpeech x = new NumberSpeech();
    rules(x, 0, zero);
    rules(x, 1, one);
    return x;
  }

  public static NumberSpeech by(String zero) {
    NumberSpeech x = new NumberSpeech();
    rules(x, 0, zero);
    return x;
  }

  public static NumberSpeech by(int limit, String zero, String one) {
    NumberSpeech x = by(zero, one);
    x.limit(limit);
    return x;
  }

  /** What a number is said, read byte by byte; null if it is silent. */
  public static String said(NumberSpeech x, int language, int n) {
    int bytes = x.said(language, n, 0);
    if (bytes == NumberSpeech.NONE) return null;
    StringBuilder text = new StringBuilder();
    for (int k = 0; k < bytes; k++) text.append((char) x.at(language, n, k));
    return text.toString();
  }

  /** All that undo() brings back, but for what else could be: limit, rules, items. */
  public static String book(NumberSpeech x) {
    StringBuilder book = new StringBuilder("limit ").append(x.told(0));
    for (int language = 0; language < 2; language++) {
      for (int rule = 0; rule < x.told(3 + language); rule++) {
        book.append(" |");
        for (int what = 0; what < 5; what++) book.append(' ').append(x.rule(language, rule, what));
        for (int item = 0; item < x.rule(language, rule, 4); item++) {
          book.append(' ').append(x.item(language, rule, item, 0)).append(':').append(x.item(language, rule, item, 1));
        }
      }
      book.append(" || ").append(x.print(language)).append(' ');
    }
    return book.toString();
  }

  /** The book, and how many can be taken back, bytes of the tape, the fault, how many were refused. */
  public static String state(NumberSpeech x) {
    return book(x) + "; " + x.told(1) + " " + x.told(2) + " " + x.fault() + " " + x.status(0) + " " + x.status(1);
  }

  public static void dueSaid(NumberSpeech x, int language, int n, String want) {
    due("what is said of " + n + " in " + language, String.valueOf(said(x, language, n)), String.valueOf(want));
  }

  public static void dueFault(String text, int kind, int place) {
    NumberSpeech x = new NumberSpeech();
    due("text \"" + text + "\"", () -> text(x, text), kind - 10);
    due("fault of \"" + text + "\"", () -> x.fault(), place);
    due("rules of \"" + text + "\"", () -> x.told(3) + x.told(4), 0);
    due("to take back of \"" + text + "\"", () -> x.told(2), 0);
    due("tape of \"" + text + "\"", () -> x.told(1), 0);
  }
}
