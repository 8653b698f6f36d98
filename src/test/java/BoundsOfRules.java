/** Sentences that name a boundary case, of promises 6 to 12: the limit, rules that go, rise, are taken back, are told. */
public final class BoundsOfRules {
  private static String thirty(int language) {
    StringBuilder text = new StringBuilder("language " + language + ";");
    for (int i = 0; i < 30; i++) text.append("say").append(100 + i).append("as/9;");
    return text.toString();
  }

  // ---- promise 6 ----

  private static void limit() {
    Sentences.holds("Terms 2", "LIMIT (1 to 1,000; 100 at first)", () -> {
      NumberSpeech x = new NumberSpeech();
      Bench.due("at first", () -> x.told(0), 100);
      Bench.due("the least", () -> x.limit(1), 100);
      Bench.due("it", () -> x.told(0), 1);
      Bench.due("the most", () -> x.limit(1000), 1);
      Bench.due("it", () -> x.told(0), 1000);
      Bench.due("two", () -> x.limit(2), 1000);
    });
    Sentences.holds("Terms 2", "ALL are the numbers 0 to LIMIT.", () -> {
      NumberSpeech x = Bench.by("say 0 as a;say 50 as b;say 51 as c;say 1000 as d;say 1001 as e;", "say 0 to 999999999 as z;");
      for (int limit : new int[] {50, 49, 51, 1, 999, 1000}) {
        x.limit(limit);
        int said = 1 + (limit >= 50 ? 1 : 0) + (limit >= 51 ? 1 : 0) + (limit >= 1000 ? 1 : 0);
        Bench.due("silent", () -> x.silent(0, 0), limit + 1 - said);
        Bench.due("the first that fits", () -> x.rule(1, 0, 5), limit + 1);
        Bench.due("0 is one of them", () -> x.rule(0, 0, 5), 1);
        Bench.due("1001 is none", () -> x.rule(0, 4, 5), 0);
        Bench.due("the last in order", () -> x.order(1, limit), limit);
        Bench.due("none behind it", () -> x.order(1, limit + 1), -1);
        Bench.due("alike ones", () -> x.alike(1, 0), limit + 1);
        Bench.due("times of z", () -> x.words(1, 1), limit + 1);
      }
    });
    Sentences.holds("Promise 6", "LIMIT from now on: what it was.", () -> {
      NumberSpeech x = Bench.by("say 3 as a;");
      Bench.due("limit", () -> x.limit(3), 100);
      Bench.due("from now on", () -> x.silent(0, 0), 3);
      Bench.due("limit", () -> x.limit(2), 3);
      Bench.due("from now on", () -> x.silent(0, 0), 3);
      Bench.due("order from now on", () -> x.order(0, 0), -1);
      Bench.due("the same", () -> x.limit(2), 2);
      Bench.due("back to 3", () -> x.limit(3), 2);
      Bench.due("order from now on", () -> x.order(0, 0), 3);
      Bench.due("and down again", () -> x.limit(2), 3);
      Bench.due("order from now on", () -> x.order(0, 0), -1);
      Bench.due("to the least", () -> x.limit(1), 2);
      Bench.due("what is said of higher ones stays", () -> x.said(0, 3, 0), 1);
      Bench.rules(x, 0, "say 0 to 999999999 as a;");
      for (int n : new int[] {2, 100, 101, 1000, 1001, 999999999}) Bench.due("what is said of " + n + " stays", () -> x.said(0, n, 0), 1);
    });
    Sentences.holds("Promise 6", "IllegalArgumentException: another argument (so below).", () -> {
      NumberSpeech x = Bench.by("say 3 as a;");
      x.limit(77);
      for (int v : new int[] {0, 1001, -1, -100, Integer.MAX_VALUE, Integer.MIN_VALUE}) Bench.wrong("limit(" + v + ")", () -> x.limit(v));
      Bench.due("it stays", () -> x.told(0), 77);
      Bench.due("none more can be taken back", () -> x.told(2), 2);
      Bench.due("refused", () -> x.status(1), 6);
      Bench.due("missing", () -> x.status(0), 0);
      soBelow();
    });
  }

  /** Of each call below that asks what, one below the least, one above the most. */
  private static void soBelow() {
    NumberSpeech x = Bench.by("say 3 as a;");
    Bench.bring(x, "a");
    String before = Bench.state(x);
    int[] most = {4, 5, 1, 2, 3, 4, 3, 2, 2, 1, 1, 2, 2};
    for (int w : new int[] {-1, Integer.MIN_VALUE, Integer.MAX_VALUE, 0}) {
      Bench.IntCall[] calls = {v -> x.told(v), v -> x.rule(0, 0, v), v -> x.item(0, 0, 0, v), v -> x.said(0, 3, v), v -> x.cause(0, 4, 0, v), v -> x.silent(0, v),
        v -> x.alike(0, v), v -> x.read(0, 1, v), v -> x.ways(0, 1, v), v -> x.way(0, 1, 0, v), v -> x.longest(0, v), v -> x.chain(0, 3, v), v -> x.words(0, v)};
      for (int i = 0; i < calls.length; i++) {
        int v = w == 0 ? most[i] + 1 : w;
        Bench.IntCall call = calls[i];
        Bench.wrong("what " + v + " of call " + i, () -> call.go(v));
      }
    }
    for (int n : new int[] {-1, 1000000000}) Bench.wrong("fits " + n, () -> x.fits(0, n));
    Bench.due("all are counted", () -> x.status(1), 4 * 13 + 2);
    Bench.due("all but that stays", Bench.state(x), before.replaceAll("0$", Integer.toString(4 * 13 + 2)));
  }

  // ---- promise 7 ----

  private static void drop() {
    Sentences.holds("Promise 7", "A RULE goes: how many there are then.", () -> {
      NumberSpeech x = Bench.by("say 0 as a;say 1 as b;say 2 as c;say 3 as d;say 4 as e;", "say 9 as z;");
      Bench.due("one in the middle", () -> x.drop(0, 2), 4);
      Bench.dueSaid(x, 0, 2, null);
      Bench.due("those behind come ahead", () -> x.fits(0, 3), 2);
      Bench.due("the first", () -> x.drop(0, 0), 3);
      Bench.due("the last", () -> x.drop(0, 2), 2);
      Bench.dueSaid(x, 0, 4, null);
      Bench.dueSaid(x, 0, 1, "b");
      Bench.dueSaid(x, 0, 3, "d");
      Bench.due("the other language's stay", () -> x.told(4), 1);
      Bench.due("drop", () -> x.drop(0, 1), 1);
      Bench.due("the only one", () -> x.drop(0, 0), 0);
      Bench.due("none", () -> x.silent(0, 0), 101);
      Bench.missing("none more", () -> x.drop(0, 0));
      Bench.text(x, thirty(1));
      Bench.text(x, thirty(0));
      Bench.due("the last of thirty", () -> x.drop(1, 29), 29);
      Bench.due("the first of 29", () -> x.drop(1, 0), 28);
      Bench.due("the first then", () -> x.rule(1, 0, 0), 101);
      Bench.due("the last then", () -> x.rule(1, 27, 0), 128);
      Bench.due("the other language's stay", () -> x.told(3), 30);
      Bench.due("the other language's last stays", () -> x.rule(0, 29, 0), 129);
    });
    Sentences.holds("Promise 7", "NoSuchElementException: no such LANGUAGE, RULE, ITEM, CAUSE (so below, ahead of others).", () -> {
      NumberSpeech x = Bench.by("say 0 as a;say 1 as b~c;", "say 0 as z;");
      String before = Bench.book(x);
      for (int language : new int[] {-1, 2, Integer.MAX_VALUE, Integer.MIN_VALUE}) noLanguage(x, language);
      for (int rule : new int[] {-1, 2, 30, Integer.MAX_VALUE, Integer.MIN_VALUE}) {
        Bench.missing("drop(0," + rule + ")", () -> x.drop(0, rule));
        Bench.missing("rise(0," + rule + ")", () -> x.rise(0, rule));
        Bench.missing("rule(0," + rule + ",6)", () -> x.rule(0, rule, 6));
        Bench.missing("item(0," + rule + ",-1,2)", () -> x.item(0, rule, -1, 2));
      }
      Bench.missing("rule 1 of language 1", () -> x.rule(1, 1, 0));
      for (int item : new int[] {-1, 3, 6, Integer.MAX_VALUE, Integer.MIN_VALUE}) Bench.missing("item(0,1," + item + ",2)", () -> x.item(0, 1, item, 2));
      Bench.missing("item 1 of rule 0", () -> x.item(0, 0, 1, -1));
      for (int k : new int[] {-1, 1, 31, Integer.MAX_VALUE, Integer.MIN_VALUE}) Bench.missing("cause(0,5," + k + ",4)", () -> x.cause(0, 5, k, 4));
      Bench.missing("cause 0 of one that is not silent", () -> x.cause(0, 0, 0, 4));
      Bench.due("all stays", Bench.book(x), before);
      Bench.due("none more can be taken back", () -> x.told(2), 2);
      Bench.due("none was wrong", () -> x.status(1), 0);
      Bench.due("all were missing", () -> x.status(0), 4 * 24 + 20 + 1 + 5 + 1 + 5 + 1);
      x.drop(0, 1);
      Bench.missing("drop(0,1), that went", () -> x.drop(0, 1));
      Bench.missing("rise(0,1), that went", () -> x.rise(0, 1));
      Bench.missing("rule(0,1,0), that went", () -> x.rule(0, 1, 0));
      Bench.missing("item(0,1,0,0), that went", () -> x.item(0, 1, 0, 0));
      Bench.text(x, "language 1;");
      Bench.missing("rule(1,0,0), of a text's that went", () -> x.rule(1, 0, 0));
      x.undo();
      x.undo();
      Bench.due("all is back", Bench.book(x), before);
    });
  }

  /** Each call that names a language refuses this one, ahead of all else that is wrong. */
  private static void noLanguage(NumberSpeech x, int l) {
    Bench.missing("drop", () -> x.drop(l, -1));
    Bench.missing("rise", () -> x.rise(l, 0));
    Bench.missing("rule", () -> x.rule(l, 0, 6));
    Bench.missing("item", () -> x.item(l, 0, 0, 2));
    Bench.missing("fits", () -> x.fits(l, -1));
    Bench.missing("said", () -> x.said(l, 0, 3));
    Bench.missing("at", () -> x.at(l, 0, -1));
    Bench.missing("asked", () -> x.asked(l, 0));
    Bench.missing("causes", () -> x.causes(l, 0));
    Bench.missing("cause", () -> x.cause(l, 5, 0, 4));
    Bench.missing("silent", () -> x.silent(l, 5));
    Bench.missing("alike", () -> x.alike(l, 4));
    Bench.missing("read", () -> x.read(l, -1, 3));
    Bench.missing("ways", () -> x.ways(l, 0, 3));
    Bench.missing("way", () -> x.way(l, 0, 0, 2));
    Bench.missing("stretches", () -> x.stretches(l, 0));
    Bench.missing("heard", () -> x.heard(l, 0));
    Bench.missing("order", () -> x.order(l, -1));
    Bench.missing("longest", () -> x.longest(l, 2));
    Bench.missing("chain", () -> x.chain(l, 0, 3));
    Bench.missing("fixed", () -> x.fixed(l));
    Bench.missing("words", () -> x.words(l, 3));
    Bench.missing("needless", () -> x.needless(l));
    Bench.missing("print", () -> x.print(l));
  }

  // ---- promise 8 ----

  private static void rise() {
    Sentences.holds("Promise 8", "A RULE changes its place with the one ahead", () -> {
      NumberSpeech x = Bench.by("say 0 as a;say 1 as b;say 2 as c;", "say 7 as z;");
      x.rise(0, 2);
      int[] due = {0, 2, 1};
      for (int rule = 0; rule < 3; rule++) {
        int r = rule;
        Bench.due("rule " + r, () -> x.rule(0, r, 0), due[r]);
      }
      x.rise(0, 1);
      Bench.due("to the first place", () -> x.rule(0, 0, 0), 2);
      Bench.due("the one that was first", () -> x.rule(0, 1, 0), 0);
      Bench.due("the other language's stay", () -> x.rule(1, 0, 0), 7);
      Bench.text(x, thirty(1));
      x.rise(1, 29);
      Bench.due("the last of thirty", () -> x.rule(1, 28, 0), 129);
      Bench.due("the one ahead", () -> x.rule(1, 29, 0), 128);
      Bench.due("as many as there were", () -> x.told(4), 30);
    });
    Sentences.holds("Promise 8", "of how many of ALL what is SAID (or that they are SILENT) is other then.", () -> {
      NumberSpeech x = Bench.by(1000, "say 0 to 999999999 as a;say 0 to 999999999 as b;", "say 5 as a;say 5 to 9 as a;say 0 as /1;say 0 as +900;say 3 as c;say 3 as +900;");
      Bench.due("all", () -> x.rise(0, 1), 1001);
      x.limit(1);
      Bench.due("0 and 1", () -> x.rise(0, 1), 2);
      x.limit(50);
      Bench.due("0 to the limit", () -> x.rise(0, 1), 51);
      Bench.due("said alike by another rule", () -> x.rise(1, 1), 0);
      Bench.due("silent for another reason", () -> x.rise(1, 3), 0);
      Bench.due("silent then", () -> x.rise(1, 5), 1);
      Bench.due("said then", () -> x.rise(1, 5), 1);
      x.limit(2);
      Bench.due("one above the limit", () -> x.rise(1, 5), 0);
      NumberSpeech y = Bench.by(20, "say 5 as a;say 5 to 6 as b;say 7 to 20 as -1;", "say 20 as a;say 20 as b;");
      Bench.due("by numbers that ask for it", () -> y.rise(0, 1), 1);
      Bench.due("said of them", () -> y.rise(0, 2), 0);
      Bench.due("the limit itself", () -> y.rise(1, 1), 1);
      NumberSpeech z = Bench.by("say 0 as %1;say 1 as %1;say 1 as -2;say 2 to 9 as -1;");
      Bench.due("said as nothing is not silent", () -> z.rise(0, 2), 9);
    });
    Sentences.holds("Promise 8", "IllegalArgumentException: it is RULE 0.", () -> {
      NumberSpeech x = Bench.by("say 0 as a;say 0 as b;");
      String before = Bench.book(x);
      Bench.wrong("rule 0", () -> x.rise(0, 0));
      Bench.due("all stays", Bench.book(x), before);
      Bench.due("none more can be taken back", () -> x.told(2), 1);
      Bench.missing("rule 0 where there is none", () -> x.rise(1, 0));
      Bench.due("refused", () -> 10 * x.status(0) + x.status(1), 11);
      Bench.due("rule 1", () -> x.rise(0, 1), 1);
    });
  }

  // ---- promise 9 ----

  private static void undo() {
    Sentences.holds("Promise 9", "All (but the TAPE, fault(), status()) is as ahead of the latest text(), more() without a FAULT, limit(), drop(), rise()", () -> {
      NumberSpeech x = Bench.by("say 0 as a;say 1 as b~c;say 2 as #5;", "say 7 to 8 every 2 1 as z;");
      String[] before = new String[6];
      before[0] = Bench.book(x);
      Bench.text(x, "language 0;say 3 as d;");
      before[1] = Bench.book(x);
      Bench.more(x, "language 1;say 4 as e;");
      before[2] = Bench.book(x);
      x.limit(9);
      before[3] = Bench.book(x);
      x.drop(1, 0);
      before[4] = Bench.book(x);
      Bench.more(x, "language 1;say 4 as f;");
      before[5] = Bench.book(x);
      x.rise(1, 1);
      Bench.due("a fault can't be taken back", () -> Bench.text(x, "language 0;say"), -9);
      Bench.wrong("nor what is refused", () -> x.limit(0));
      Bench.missing("nor what is missing", () -> x.drop(0, 7));
      Bench.due("nor a feed", () -> x.feed(0x6c616e67, 0x75616765, 0x20303b73, 0x61792035, 0x20617320), 20);
      for (int i = 5; i >= 0; i--) {
        int left = i + 2;
        Bench.due("undo", () -> x.undo(), left);
        Bench.due("as ahead of change " + i, Bench.book(x), before[i]);
      }
      Bench.due("the fault stays", () -> x.fault(), 14);
      Bench.due("refusals stay", () -> 10 * x.status(0) + x.status(1), 11);
      Bench.due("bytes of the tape stay", () -> x.told(1), 20);
      x.feed(0x613b2020, 0x20202020, 0x20202020, 0x20202020, 0x20202020);
      Bench.due("the tape itself stays", () -> x.text(40), 1);
      Bench.dueSaid(x, 0, 5, "a");
    });
    Sentences.holds("Promise 9", "(the latest 12 can be taken back)", () -> {
      NumberSpeech x = Bench.by("say 0 as a;");
      for (int v = 1; v <= 12; v++) x.limit(v);
      Bench.due("of thirteen twelve", () -> x.told(2), 12);
      for (int v = 13; v <= 40; v++) x.limit(v);
      Bench.due("of forty twelve", () -> x.told(2), 12);
      for (int i = 1; i <= 12; i++) {
        int left = 12 - i;
        Bench.due("undo " + i, () -> x.undo(), left);
        Bench.due("limit", () -> x.told(0), 28 + left);
      }
      Bench.due("a thirteenth", () -> x.undo(), -1);
      Bench.due("limit", () -> x.told(0), 28);
      Bench.due("the rules stay", () -> x.told(3), 1);
      for (int v = 1; v <= 11; v++) x.limit(v);
      Bench.due("eleven", () -> x.told(2), 11);
      x.undo();
      x.undo();
      x.limit(500);
      Bench.due("what is taken back is gone", () -> x.told(2), 10);
      Bench.due("undo", () -> x.undo(), 9);
      Bench.due("limit", () -> x.told(0), 9);
      Bench.due("undo", () -> x.undo(), 8);
      Bench.due("limit", () -> x.told(0), 8);
      NumberSpeech y = Bench.by("say 0 as a;say 1 as b;");
      for (int i = 0; i < 12; i++) y.rise(0, 1);
      for (int i = 0; i < 12; i++) y.undo();
      Bench.due("the thirteenth from behind was the text", () -> y.told(3), 2);
    });
    Sentences.holds("Promise 9", "how many still can; NONE: none could.", () -> {
      NumberSpeech x = new NumberSpeech();
      Bench.due("none yet", () -> x.undo(), -1);
      x.limit(5);
      x.limit(6);
      Bench.due("one still", () -> x.undo(), 1);
      Bench.due("none still", () -> x.undo(), 0);
      Bench.due("none could", () -> x.undo(), -1);
      Bench.due("and again", () -> x.undo(), -1);
      Bench.due("it stays", () -> x.told(0), 100);
      Bench.due("none", () -> x.told(2), 0);
      Bench.due("not refused", () -> x.status(0) + x.status(1), 0);
      x.limit(7);
      Bench.due("one again", () -> x.undo(), 0);
    });
  }

  // ---- promises 10 to 12 ----

  private static void told() {
    Sentences.holds("Promise 10", "0 LIMIT, 1 bytes of the TAPE, 2 how many can be taken back, 3, 4 RULES of LANGUAGE 0, 1.", () -> {
      NumberSpeech x = new NumberSpeech();
      Bench.dueRow("the least", w -> x.told(w), 100, 0, 0, 0, 0);
      for (int i = 0; i < 12; i++) Bench.text(x, "language 1;");
      Bench.text(x, thirty(0));
      Bench.text(x, thirty(1));
      x.limit(1000);
      x.drop(1, 3);
      for (int i = 0; i < 21; i++) x.feed(0, 0, 0, 0, 0);
      Bench.dueRow("the most", w -> x.told(w), 1000, 400, 12, 30, 29);
      Bench.due("refused, what -1 and 5 and others", () -> x.status(1), 8);
    });
  }

  private static void rule() {
    Sentences.holds("Promise 11", "Of a RULE: 0 FROM, 1 TO, 2 D, 3 R, 4 ITEMS, 5 of how many of ALL it is the first that FITS.", () -> {
      NumberSpeech x = Bench.by("say 10 to 999999999 every 9999 9998 as a b c d e f;say 3 as a;say 2 to 5 as b;say 3 as c;say 0 to 1000 as d;", "say 0 as a;");
      Bench.dueRow("rule 0", w -> x.rule(0, 0, w), 10, 999999999, 9999, 9998, 6, 0);
      Bench.dueRow("rule 1", w -> x.rule(0, 1, w), 3, 3, 1, 0, 1, 1);
      Bench.dueRow("rule 2", w -> x.rule(0, 2, w), 2, 5, 1, 0, 1, 3);
      Bench.dueRow("rule 3, never the first", w -> x.rule(0, 3, w), 3, 3, 1, 0, 1, 0);
      Bench.dueRow("rule 4", w -> x.rule(0, 4, w), 0, 1000, 1, 0, 1, 97);
      Bench.dueRow("rule 0 of language 1", w -> x.rule(1, 0, w), 0, 0, 1, 0, 1, 1);
      x.limit(1000);
      Bench.due("of all", () -> x.rule(0, 4, 5), 997);
      x.limit(4);
      Bench.due("of all", () -> x.rule(0, 2, 5), 2);
      Bench.due("of all", () -> x.rule(0, 4, 5), 2);
      NumberSpeech y = Bench.by("say 0 to 9 as +1;");
      Bench.due("it fits, though they are silent", () -> y.rule(0, 0, 5), 10);
    });
  }

  private static void item() {
    Sentences.holds("Promise 12", "Of an ITEM: 0 0 a WORD, 1 \"/\", 2 \"%\", 3 \"#\", 4 \"-\", 5 \"+\", 6 glue, 1 K (of a WORD its letters; 0 of glue).", () -> {
      NumberSpeech x = Bench.by("say 0 as a ~ abcdefgh /1 ~ /999999;say 0 as %1 %999999 #1 #999999 -1 -999999;say 0 as +1 +999999;");
      int[][][] due = {{{0, 1}, {6, 0}, {0, 8}, {1, 1}, {6, 0}, {1, 999999}}, {{2, 1}, {2, 999999}, {3, 1}, {3, 999999}, {4, 1}, {4, 999999}},
        {{5, 1}, {5, 999999}}};
      for (int rule = 0; rule < due.length; rule++) {
        for (int item = 0; item < due[rule].length; item++) {
          int r = rule;
          int i = item;
          Bench.dueRow("item " + i + " of rule " + r, w -> x.item(0, r, i, w), due[r][i]);
        }
        int r = rule;
        int behind = due[rule].length;
        Bench.missing("one behind", () -> x.item(0, r, behind, 0));
      }
    });
  }

  public static void all() {
    limit();
    drop();
    rise();
    undo();
    told();
    rule();
    item();
  }

  public static void main(String[] args) {
    all();
    Bench.end("BoundsOfRules");
  }
}
