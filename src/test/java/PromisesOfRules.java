/** Promises 6 to 13: the limit, rules that go and rise, all taken back; what rules and items are. */
public final class PromisesOfRules {
  private static final String COUNTING = "language 0;say 0 as zero;say 1 as one;say 2 as two;say 3 to 5 as ab~%2;say 6 to 9 as /3 six %3;";

  private static NumberSpeech counting() {
    NumberSpeech x = new NumberSpeech();
    Bench.text(x, COUNTING);
    return x;
  }

  private static void promise6() {
    NumberSpeech x = counting();
    Bench.due("limit", () -> x.limit(1), 100);
    Bench.due("silent", () -> x.silent(0, 0), 0);
    Bench.due("limit", () -> x.limit(1000), 1);
    Bench.due("silent", () -> x.silent(0, 0), 991);
    Bench.due("the same limit", () -> x.limit(1000), 1000);
    Bench.due("can be taken back", () -> x.told(2), 4);
    Bench.wrong("limit 0", () -> x.limit(0));
    Bench.wrong("limit 1001", () -> x.limit(1001));
    Bench.wrong("limit below 0", () -> x.limit(Integer.MIN_VALUE));
    Bench.due("limit stays", () -> x.told(0), 1000);
    Bench.due("refused ones can't be taken back", () -> x.told(2), 4);
  }

  private static void promise7() {
    NumberSpeech x = counting();
    Bench.due("drop", () -> x.drop(0, 1), 4);
    Bench.dueSaid(x, 0, 1, null);
    Bench.dueSaid(x, 0, 3, null);
    Bench.dueSaid(x, 0, 2, "two");
    Bench.dueSaid(x, 0, 6, "two six");
    Bench.due("those behind come ahead", () -> x.rule(0, 1, 0), 2);
    Bench.missing("drop of a rule that is none", () -> x.drop(0, 4));
    Bench.missing("drop below 0", () -> x.drop(0, -1));
    Bench.missing("drop in no language", () -> x.drop(2, 0));
    Bench.missing("drop in the empty language", () -> x.drop(1, 0));
    Bench.due("drop the last", () -> x.drop(0, 3), 3);
    Bench.due("drop", () -> x.drop(0, 0), 2);
    Bench.due("drop", () -> x.drop(0, 0), 1);
    Bench.due("drop", () -> x.drop(0, 0), 0);
    Bench.missing("drop of none", () -> x.drop(0, 0));
    Bench.due("can be taken back", () -> x.told(2), 6);
    for (int language = 0; language < 2; language++) {
      int l = language;
      StringBuilder thirty = new StringBuilder("language " + l + ";");
      for (int n = 0; n < 30; n++) thirty.append("say").append(n).append("as/9;");
      Bench.text(x, thirty.toString());
      Bench.due("drop of thirty", () -> x.drop(l, 12), 29);
      Bench.due("the last one", () -> x.rule(l, 28, 0), 29);
      Bench.due("drop the last", () -> x.drop(l, 28), 28);
      Bench.missing("no such one now", () -> x.rule(l, 28, 0));
      Bench.due("the one behind it", () -> x.rule(l, 12, 0), 13);
    }
  }

  private static void promise8() {
    NumberSpeech x = new NumberSpeech();
    Bench.text(x, "language 1;say 0 as a;say 1 to 10 every 2 1 as b;say 1 to 10 every 3 1 as c;say 11 to 20 as -10;say 1 to 3 as d d d;");
    Bench.due("rise: 1, 7, and 11, 17 by them", () -> x.rise(1, 2), 4);
    Bench.due("what rose", () -> x.rule(1, 1, 2), 3);
    Bench.due("the other", () -> x.rule(1, 2, 2), 2);
    Bench.dueSaid(x, 1, 7, "c");
    Bench.dueSaid(x, 1, 17, "c");
    Bench.due("rise that changes nothing", () -> x.rise(1, 1), 0);
    Bench.due("can be taken back", () -> x.told(2), 3);
    Bench.due("rise, of the limit alone", () -> { x.limit(2); return x.rise(1, 4); }, 0);
    Bench.wrong("rise of rule 0", () -> x.rise(1, 0));
    Bench.missing("rise of no rule", () -> x.rise(1, 5));
    Bench.missing("rise below 0", () -> x.rise(1, -1));
    Bench.missing("rise of rule 0 that is none", () -> x.rise(0, 0));
    Bench.missing("rise in no language", () -> x.rise(-1, 0));
    Bench.due("refused ones can't be taken back", () -> x.told(2), 5);
    NumberSpeech y = new NumberSpeech();
    Bench.text(y, "language 0;say 0 to 9 as z;say 5 as +6;");
    Bench.due("rise: 5 is silent then", () -> y.rise(0, 1), 1);
    Bench.dueSaid(y, 0, 5, null);
    Bench.due("rise back", () -> y.rise(0, 1), 1);
    Bench.dueSaid(y, 0, 5, "z");
    y.limit(1000);
    Bench.text(y, "language 0;say 0 to 1000 as a;say 0 to 1000 as b;");
    Bench.due("rise: all are other", () -> y.rise(0, 1), 1001);
    y.limit(999);
    Bench.due("rise: to the limit", () -> y.rise(0, 1), 1000);
  }

  private static void promise9() {
    NumberSpeech x = counting();
    Bench.bring(x, "language");
    x.limit(7);
    x.drop(0, 0);
    x.rise(0, 1);
    Bench.due("taken back: rise", () -> x.undo(), 3);
    Bench.due("rule", () -> x.rule(0, 0, 0), 1);
    Bench.due("taken back: drop", () -> x.undo(), 2);
    Bench.due("rules", () -> x.told(3), 5);
    Bench.dueSaid(x, 0, 0, "zero");
    Bench.due("taken back: limit", () -> x.undo(), 1);
    Bench.due("limit", () -> x.told(0), 100);
    Bench.due("taken back: text", () -> x.undo(), 0);
    Bench.dueSaid(x, 0, 1, null);
    Bench.due("nothing more", () -> x.undo(), -1);
    Bench.due("the tape stays", () -> x.told(1), 20);
    Bench.due("asked, nothing can be taken back", () -> { x.silent(0, 0); return x.undo(); }, -1);
    Bench.empty(x);
    Bench.text(x, "language 1;say 3 as x;");
    Bench.more(x, "language 1;say 4 as y;");
    Bench.due("taken back: more", () -> x.undo(), 1);
    Bench.dueSaid(x, 1, 4, null);
    Bench.dueSaid(x, 1, 3, "x");
    Bench.due("a text without rules", () -> Bench.text(x, "language 1;"), 0);
    Bench.due("taken back", () -> x.undo(), 1);
    Bench.dueSaid(x, 1, 3, "x");
    takeBackTwelve();
  }

  private static void takeBackTwelve() {
    NumberSpeech x = counting();
    for (int v = 1; v <= 30; v++) x.limit(v);
    Bench.due("twelve at most", () -> x.told(2), 12);
    for (int i = 0; i < 12; i++) {
      int left = 11 - i;
      Bench.due("undo", () -> x.undo(), left);
      Bench.due("limit", () -> x.told(0), 18 + left);
    }
    Bench.due("undo", () -> x.undo(), -1);
    Bench.due("limit", () -> x.told(0), 18);
    Bench.due("rules stay", () -> x.told(3), 5);
    x.limit(50);
    Bench.due("undo", () -> x.undo(), 0);
    Bench.due("limit", () -> x.told(0), 18);
  }

  private static void promise10() {
    NumberSpeech x = counting();
    Bench.text(x, "language 1;say 1 as a;");
    x.feed(0, 0, 0, 0, 0);
    x.limit(77);
    Bench.due("told 0", () -> x.told(0), 77);
    Bench.due("told 1", () -> x.told(1), 20);
    Bench.due("told 2", () -> x.told(2), 3);
    Bench.due("told 3", () -> x.told(3), 5);
    Bench.due("told 4", () -> x.told(4), 1);
    Bench.wrong("told 5", () -> x.told(5));
    Bench.wrong("told -1", () -> x.told(-1));
  }

  private static void promise11() {
    NumberSpeech x = new NumberSpeech();
    Bench.text(x, "language 0;say 4 to 999999999 every 7 3 as a ~ b /2;say 0 to 50 as c;say 9 as d;");
    int[] due = {4, 999999999, 7, 3, 4, 13};
    for (int what = 0; what < due.length; what++) {
      int w = what;
      Bench.due("rule(0,0," + w + ")", () -> x.rule(0, 0, w), due[w]);
    }
    Bench.due("first that fits", () -> x.rule(0, 1, 5), 45);
    Bench.due("never the first", () -> x.rule(0, 2, 5), 0);
    x.limit(10);
    Bench.due("of all alone", () -> x.rule(0, 0, 5), 1);
    Bench.due("of all alone", () -> x.rule(0, 1, 5), 10);
    Bench.due("to without", () -> x.rule(0, 2, 1), 9);
    Bench.due("d without", () -> x.rule(0, 2, 2), 1);
    Bench.due("r without", () -> x.rule(0, 2, 3), 0);
    Bench.wrong("rule of another what", () -> x.rule(0, 0, 6));
    Bench.wrong("rule of another what", () -> x.rule(0, 0, -1));
    Bench.missing("rule that is none", () -> x.rule(0, 3, 6));
    Bench.missing("rule below 0", () -> x.rule(0, -1, 0));
    Bench.missing("rule of no language", () -> x.rule(2, 0, 0));
    Bench.missing("rule of the empty language", () -> x.rule(1, 0, 0));
  }

  private static void promise12() {
    NumberSpeech x = new NumberSpeech();
    Bench.text(x, "language 1;say 1 as abcdefgh /11 %22 #33 -44 +999999;say 2 as to ~ as;");
    int[][] due = {{0, 8}, {1, 11}, {2, 22}, {3, 33}, {4, 44}, {5, 999999}};
    for (int item = 0; item < due.length; item++) {
      int i = item;
      Bench.due("kind of item " + i, () -> x.item(1, 0, i, 0), due[i][0]);
      Bench.due("value of item " + i, () -> x.item(1, 0, i, 1), due[i][1]);
    }
    Bench.due("kind of glue", () -> x.item(1, 1, 1, 0), 6);
    Bench.due("value of glue", () -> x.item(1, 1, 1, 1), 0);
    Bench.due("letters", () -> x.item(1, 1, 2, 1), 2);
    Bench.wrong("item of another what", () -> x.item(1, 0, 0, 2));
    Bench.wrong("item of another what", () -> x.item(1, 0, 0, -1));
    Bench.missing("item that is none", () -> x.item(1, 0, 6, 2));
    Bench.missing("item that is none", () -> x.item(1, 1, 3, 0));
    Bench.missing("item below 0", () -> x.item(1, 0, -1, 0));
    Bench.missing("item of no rule", () -> x.item(1, 2, 0, 0));
    Bench.missing("item of no language", () -> x.item(-1, 0, 0, 0));
  }

  private static void promise13() {
    NumberSpeech x = new NumberSpeech();
    Bench.text(x, "language 0;say 10 to 20 every 4 2 as a;say 14 as b;say 15 to 16 as c;say 999999999 as d;");
    Bench.due("fits 9", () -> x.fits(0, 9), -1);
    Bench.due("fits 10", () -> x.fits(0, 10), 0);
    Bench.due("fits 14", () -> x.fits(0, 14), 0);
    Bench.due("fits 15", () -> x.fits(0, 15), 2);
    Bench.due("fits 17", () -> x.fits(0, 17), -1);
    Bench.due("fits 18", () -> x.fits(0, 18), 0);
    Bench.due("fits 22", () -> x.fits(0, 22), -1);
    Bench.due("fits 0", () -> x.fits(0, 0), -1);
    Bench.due("fits the highest", () -> x.fits(0, 999999999), 3);
    Bench.wrong("fits below", () -> x.fits(0, -1));
    Bench.wrong("fits above", () -> x.fits(0, 1000000000));
    Bench.missing("fits of no language", () -> x.fits(2, -1));
  }

  public static void main(String[] args) {
    promise6();
    promise7();
    promise8();
    promise9();
    promise10();
    promise11();
    promise12();
    promise13();
    Bench.end("PromisesOfRules");
  }
}
