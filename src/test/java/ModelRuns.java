import java.util.ArrayList;
import java.util.List;

/** Runs of calls, made by a fixed row of numbers, each answered by NumberSpeech as by the Model. */
public final class ModelRuns {
  private static NumberSpeech x;
  private static Model m;
  private static String latest = "language 0;";
  private static final List<String> told = new ArrayList<>();

  private static void feed(String text) {
    for (int i = 0; i < text.length(); i += 20) {
      int[] words = new int[5];
      for (int k = 0; k < 20; k++) words[k / 4] = words[k / 4] << 8 | (i + k < text.length() ? text.charAt(i + k) & 255 : 0);
      check("feed", () -> x.feed(words[0], words[1], words[2], words[3], words[4]), () -> m.feed(words[0], words[1], words[2], words[3], words[4]));
    }
  }

  private static void check(String what, Bench.Call mine, Bench.Call due) {
    String want = Bench.answer(due);
    told.add(what + " = " + want);
    String got = Bench.answer(mine);
    if (!got.equals(want)) {
      for (String row : told.subList(Math.max(0, told.size() - 60), told.size())) System.out.println("  " + row);
    }
    Bench.due(what, got, want);
  }

  private static int language() { return Texts.pick(60) == 0 ? Texts.oneOf(-1, 2, Integer.MIN_VALUE, Integer.MAX_VALUE) : Texts.pick(2); }

  private static int number() {
    switch (Texts.pick(10)) {
      case 0: return Texts.pick(3) > 0 ? Texts.pick(5) : Texts.oneOf(-1, 0, 999999999, 1000000000, Integer.MAX_VALUE, Integer.MIN_VALUE);
      case 1: return Texts.pick(2) == 0 ? Texts.pick(1000000000) : Texts.pick(20);
      case 2: return Texts.pick(3000);
      case 3: case 4: return Texts.pick(10);
      default: return Texts.pick(120);
    }
  }

  private static int what(int most) { return Texts.pick(50) == 0 ? Texts.oneOf(-1, most + 1, Integer.MAX_VALUE, Integer.MIN_VALUE) : Texts.pick(most + 1); }

  private static void takeText() {
    if (Texts.pick(3) == 0) check("text(0)", () -> x.text(0), () -> m.text(0));
    String text = Texts.pick(4) == 0 ? Texts.ENGLISH[Texts.pick(3)] : Texts.text(Texts.pick(2) == 0);
    boolean behind = Texts.pick(3) == 0;
    if (Texts.pick(12) == 0) text = latest.replace("language 0", "language 2").replace("language 1", "language 0").replace("language 2", "language 1");
    else latest = text;
    String used = Texts.pick(4) == 0 ? Texts.spoilt(text) : text;
    if (used.length() > 400) return;
    feed(used);
    int n = Texts.pick(30) == 0 ? Texts.oneOf(-1, 401, used.length() - 1, 500) : used.length();
    if (behind) check("more(" + n + ") of " + used, () -> x.more(n), () -> m.more(n));
    else check("text(" + n + ") of " + used, () -> x.text(n), () -> m.text(n));
    check("fault()", () -> x.fault(), () -> m.fault());
  }

  private static void english() {
    for (int i = 0; i < 3; i++) {
      check("text(0)", () -> x.text(0), () -> m.text(0));
      String text = Texts.ENGLISH[i];
      feed(text);
      if (i == 0) check("text of " + text, () -> x.text(text.length()), () -> m.text(text.length()));
      else check("more of " + text, () -> x.more(text.length()), () -> m.more(text.length()));
    }
  }

  /** Rules by which many numbers are asked for, texts grow long, and loops run deep. */
  private static void busy() {
    for (int language = 0; language < 2; language++) {
      check("text(0)", () -> x.text(0), () -> m.text(0));
      String whole = Texts.busy(language);
      feed(whole);
      check("text of " + whole, () -> x.text(whole.length()), () -> m.text(whole.length()));
    }
  }

  /** Brings what some numbers are said, one behind the other, on the tape; asks how it is heard. */
  private static void hear() {
    check("text(0)", () -> x.text(0), () -> m.text(0));
    StringBuilder text = new StringBuilder();
    int language = Texts.pick(2);
    for (int i = Texts.pick(6); i >= 0; i--) {
      int n = Texts.pick(120);
      for (int k = 0; k < m.said(language, n, 0); k++) text.append((char) m.at(language, n, k));
      if (i > 0 || Texts.pick(3) == 0) text.append(Texts.pick(5) == 0 ? "  " : " ");
    }
    if (Texts.pick(12) == 0) text.append(Texts.oneOf('a', '?', ' ', 'B', 0));
    if (text.length() > 380 || text.length() == 0) return;
    feed(text.toString());
    int n = text.length();
    for (int i = 0; i < 4; i++) hearCall(language(), Texts.pick(20) == 0 ? Texts.oneOf(0, -1, n + 30, 401, n - 1) : n, text.toString());
  }

  private static void hearCall(int language, int n, String text) {
    int what = what(2);
    int k = Texts.pick(6) - 1;
    String of = " of '" + text + "'";
    switch (Texts.pick(4)) {
      case 0: check("read(" + language + "," + n + "," + what + ")" + of, () -> x.read(language, n, what), () -> m.read(language, n, what)); break;
      case 1: check("ways(" + language + "," + n + "," + what + ")" + of, () -> x.ways(language, n, what), () -> m.ways(language, n, what)); break;
      case 2: check("way(" + language + "," + n + "," + k + "," + what + ")" + of, () -> x.way(language, n, k, what), () -> m.way(language, n, k, what)); break;
      default: check("stretches(" + language + "," + n + ")" + of, () -> x.stretches(language, n), () -> m.stretches(language, n)); break;
    }
  }

  private static void change() {
    int language = language();
    int rule = Texts.pick(12) - 1;
    switch (Texts.pick(8)) {
      case 0: check("drop(" + language + "," + rule + ")", () -> x.drop(language, rule), () -> m.drop(language, rule)); break;
      case 1: case 2: check("rise(" + language + "," + rule + ")", () -> x.rise(language, rule), () -> m.rise(language, rule)); break;
      case 3:
        int v = Texts.pick(20) == 0 ? Texts.oneOf(0, -5, 1001, 1000) : 1 + Texts.pick(Texts.oneOf(10, 150));
        check("limit(" + v + ")", () -> x.limit(v), () -> m.limit(v));
        break;
      case 4: check("undo()", () -> x.undo(), () -> m.undo()); break;
      default: takeText(); break;
    }
  }

  private static void ask() {
    int language = language();
    int n = number();
    int k = Texts.pick(10) == 0 ? Texts.oneOf(-1, 1000, Integer.MIN_VALUE, Integer.MAX_VALUE) : Texts.pick(8);
    int deep = Texts.pick(33) - 1;
    switch (Texts.pick(26)) {
      case 0: { int w = what(4); check("told(" + w + ")", () -> x.told(w), () -> m.told(w)); break; }
      case 1: { int w = what(5); check("rule(" + language + "," + k + "," + w + ")", () -> x.rule(language, k, w), () -> m.rule(language, k, w)); break; }
      case 2: { int w = what(1); int i = Texts.pick(8) - 1; check("item(" + language + "," + k + "," + i + "," + w + ")", () -> x.item(language, k, i, w), () -> m.item(language, k, i, w)); break; }
      case 3: check("fits(" + language + "," + n + ")", () -> x.fits(language, n), () -> m.fits(language, n)); break;
      case 4: case 5: { int w = what(2); check("said(" + language + "," + n + "," + w + ")", () -> x.said(language, n, w), () -> m.said(language, n, w)); break; }
      case 6: check("at(" + language + "," + n + "," + k + ")", () -> x.at(language, n, k), () -> m.at(language, n, k)); break;
      case 7: case 8: check("asked(" + language + "," + n + ")", () -> x.asked(language, n), () -> m.asked(language, n)); break;
      case 9: check("causes(" + language + "," + n + ")", () -> x.causes(language, n), () -> m.causes(language, n)); break;
      case 10: case 11: case 12: { int w = what(3); int d = Texts.pick(3) == 0 ? deep : Texts.pick(4); check("cause(" + language + "," + n + "," + d + "," + w + ")", () -> x.cause(language, n, d, w), () -> m.cause(language, n, d, w)); break; }
      case 13: { int w = what(4); check("silent(" + language + "," + w + ")", () -> x.silent(language, w), () -> m.silent(language, w)); break; }
      case 14: { int w = what(3); check("alike(" + language + "," + w + ")", () -> x.alike(language, w), () -> m.alike(language, w)); break; }
      case 15: check("heard(" + language + "," + n + ")", () -> x.heard(language, n), () -> m.heard(language, n)); break;
      case 16: check("same()", () -> x.same(), () -> m.same()); break;
      case 17: { int w = Texts.pick(2) == 0 ? k : Texts.pick(110); check("order(" + language + "," + w + ")", () -> x.order(language, w), () -> m.order(language, w)); break; }
      case 18: { int w = what(1); check("longest(" + language + "," + w + ")", () -> x.longest(language, w), () -> m.longest(language, w)); break; }
      case 19: { int w = what(2); check("chain(" + language + "," + n + "," + w + ")", () -> x.chain(language, n, w), () -> m.chain(language, n, w)); break; }
      case 20: check("fixed(" + language + ")", () -> x.fixed(language), () -> m.fixed(language)); break;
      case 21: { int w = what(2); check("words(" + language + "," + w + ")", () -> x.words(language, w), () -> m.words(language, w)); break; }
      case 22: check("needless(" + language + ")", () -> x.needless(language), () -> m.needless(language)); break;
      case 23: check("print(" + language + ")", () -> x.print(language), () -> m.print(language)); break;
      case 24: { int w = what(1); check("status(" + w + ")", () -> x.status(w), () -> m.status(w)); break; }
      default: { int w = Texts.oneOf(0, 1, 5, 20, 100, 500); hearCall(language, w, "what is there"); break; }
    }
  }

  public static void main(String[] args) {
    int runs = args.length > 0 ? Integer.parseInt(args[0]) : 250;
    int first = args.length > 1 ? Integer.parseInt(args[1]) : 1;
    for (int run = first; run < first + runs; run++) {
      Texts.seed = run * 7919L;
      x = new NumberSpeech();
      m = new Model();
      told.clear();
      latest = "language 0;";
      told.add("run " + run);
      int start = Texts.pick(6);
      if (start < 2) english();
      else if (start < 4) busy();
      else takeText();
      if (Texts.pick(2) == 0) takeText();
      while (told.size() < 480) {
        int kind = Texts.pick(12);
        if (kind == 0) change();
        else if (kind == 1) hear();
        else ask();
      }
      for (int language = 0; language < 2; language++) {
        int l = language;
        check("print(" + l + ")", () -> x.print(l), () -> m.print(l));
        check("status(" + l + ")", () -> x.status(l), () -> m.status(l));
      }
    }
    Bench.end("ModelRuns");
  }
}
