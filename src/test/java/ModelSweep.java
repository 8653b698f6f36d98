import java.util.ArrayList;
import java.util.List;
import java.util.function.Consumer;

/** Sets of rules; of each all that can be asked of every number, and of all of them, as the Model answers it. */
public final class ModelSweep {
  /** An object is asked this often at most; then another one, brought to the same state, goes on. */
  private static final int MOST_CALLS = 512;
  /** At most so many calls bring a new object to where the old one stood: three texts, the limit, two rises. */
  private static final int MOST_TO_RENEW = 3 * 22 + 3;

  private static NumberSpeech x;
  private static Model m;
  private static String texts;
  private static int calls;
  private static final List<Consumer<NumberSpeech>> changes = new ArrayList<>();

  private static void check(String what, Bench.Call mine, Bench.Call due) {
    if (calls >= MOST_CALLS) renew();
    calls++;
    Bench.due(what + " by " + texts, Bench.answer(mine), Bench.answer(due));
  }

  private static void renew() {
    x = new NumberSpeech();
    for (Consumer<NumberSpeech> change : changes) change.accept(x);
    calls = MOST_TO_RENEW;
  }

  private static void change(String what, Consumer<NumberSpeech> change, Bench.Call mine, Bench.Call due) {
    check(what, mine, due);
    changes.add(change);
  }

  private static void take(String text, boolean behind) {
    feed(text);
    texts += text;
    if (behind) change("more", y -> Bench.more(y, text), () -> x.more(text.length()), () -> m.more(text.length()));
    else change("text", y -> Bench.text(y, text), () -> x.text(text.length()), () -> m.text(text.length()));
  }

  private static void feed(String text) {
    m.text(0);
    x.text(0);
    Bench.bring(x, text);
    calls += 21;
    for (int i = 0; i < text.length(); i += 20) {
      int[] w = new int[5];
      for (int k = 0; k < 20; k++) w[k / 4] = w[k / 4] << 8 | (i + k < text.length() ? text.charAt(i + k) : 0);
      m.feed(w[0], w[1], w[2], w[3], w[4]);
    }
  }

  private static void sweepNumber(int n) {
    for (int language = 0; language < 2; language++) {
      int l = language;
      for (int what = 0; what < 3; what++) {
        int w = what;
        check("said(" + l + "," + n + "," + w + ")", () -> x.said(l, n, w), () -> m.said(l, n, w));
        check("chain(" + l + "," + n + "," + w + ")", () -> x.chain(l, n, w), () -> m.chain(l, n, w));
      }
      for (int k = 0; k < m.said(l, n, 0); k++) {
        int at = k;
        check("at(" + l + "," + n + "," + k + ")", () -> x.at(l, n, at), () -> m.at(l, n, at));
      }
      check("asked(" + l + "," + n + ")", () -> x.asked(l, n), () -> m.asked(l, n));
      check("heard(" + l + "," + n + ")", () -> x.heard(l, n), () -> m.heard(l, n));
      int causes = m.causes(l, n);
      check("causes(" + l + "," + n + ")", () -> x.causes(l, n), () -> causes);
      for (int k = 0; k < causes; k++) {
        int deep = k;
        for (int what = 0; what < 4; what++) {
          int w = what;
          check("cause(" + l + "," + n + "," + k + "," + w + ")", () -> x.cause(l, n, deep, w), () -> m.cause(l, n, deep, w));
        }
      }
    }
  }

  private static void sweepAll() {
    check("same()", () -> x.same(), () -> m.same());
    for (int language = 0; language < 2; language++) {
      int l = language;
      for (int what = 0; what < 5; what++) {
        int w = what;
        check("silent(" + l + "," + w + ")", () -> x.silent(l, w), () -> m.silent(l, w));
        check("alike(" + l + "," + w + ")", () -> x.alike(l, w), () -> m.alike(l, w));
        check("words(" + l + "," + w + ")", () -> x.words(l, w), () -> m.words(l, w));
        check("longest(" + l + "," + w + ")", () -> x.longest(l, w), () -> m.longest(l, w));
      }
      for (int k = -1; k < m.told(0) + 3; k += 1 + Texts.pick(3)) {
        int at = k;
        check("order(" + l + "," + k + ")", () -> x.order(l, at), () -> m.order(l, at));
      }
      check("fixed(" + l + ")", () -> x.fixed(l), () -> m.fixed(l));
      check("needless(" + l + ")", () -> x.needless(l), () -> m.needless(l));
      check("print(" + l + ")", () -> x.print(l), () -> m.print(l));
      for (int rule = 0; rule < m.told(3 + l); rule++) {
        int r = rule;
        check("rule(" + l + "," + r + ",5)", () -> x.rule(l, r, 5), () -> m.rule(l, r, 5));
      }
    }
  }

  public static void main(String[] args) {
    int sets = args.length > 0 ? Integer.parseInt(args[0]) : 120;
    int first = args.length > 1 ? Integer.parseInt(args[1]) : 1;
    for (int set = first; set < first + sets; set++) {
      Texts.seed = set * 104729L;
      x = new NumberSpeech();
      m = new Model();
      texts = "";
      calls = 0;
      changes.clear();
      for (int i = 0; i < 3; i++) {
        int kind = Texts.pick(3);
        String text = kind == 0 ? Texts.busy(i & 1) : kind == 1 ? Texts.text(false) : Texts.ENGLISH[i];
        if (text.length() <= 400) take(text, i > 0 && Texts.pick(2) == 0);
      }
      int limit = Texts.oneOf(40, 100, 100, 130, 1000);
      change("limit", y -> y.limit(limit), () -> x.limit(limit), () -> m.limit(limit));
      boolean backwards = Texts.pick(2) == 0;
      int step = limit == 1000 ? 7 : 1;
      for (int i = 0; i <= limit; i += step) sweepNumber(backwards ? limit - i : i);
      for (int i = 0; i < 20; i++) sweepNumber(Texts.pick(1_000_000_000));
      sweepAll();
      for (int language = 0; language < 2; language++) {
        int l = language;
        if (m.told(3 + l) > 1) change("rise(" + l + ",1)", y -> y.rise(l, 1), () -> x.rise(l, 1), () -> m.rise(l, 1));
        else check("rise(" + l + ",1)", () -> x.rise(l, 1), () -> m.rise(l, 1));
      }
      sweepAll();
    }
    Bench.end("ModelSweep");
  }
}
