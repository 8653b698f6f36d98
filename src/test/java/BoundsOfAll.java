/** Sentences that name a boundary case, of going over all numbers up to the limit, and of texts heard: promises 19 to 33. */
public final class BoundsOfAll {
  /** A hundred bytes, said of 2. */
  private static final String HUNDRED = "say 1 as aaaaaaaa aaaaaaaa aaaaaaaa aaaaaaaa aaaaaaaa aaaaa;say 2 as -1~-1;";
  /** Fifty bytes, said of 11; a hundred, said of 12. */
  private static final String LATER_HUNDRED = HUNDRED.replace("say 1 ", "say 11 ").replace("say 2 as -1~-1", "say 12 as -1~-1");
  /** n is said as n times "a", up to 40 at least. */
  private static final String TIMES = "say 1 as a;say 2 to 50 every 2 0 as /2 /2;say 3 to 49 every 2 1 as -1 a;";

  private static void dueRead(NumberSpeech x, int n, int... due) {
    Bench.dueRow("read of " + n + " bytes", w -> x.read(0, n, w), due);
  }

  private static void dueWays(NumberSpeech x, int n, int... due) {
    Bench.dueRow("ways of " + n + " bytes", w -> x.ways(0, n, w), due);
  }

  private static void dueHeard(NumberSpeech x, String text, int... due) {
    dueWays(x, Bench.tape(x, text), due);
  }

  // ---- asked, nothing changes ----

  private static void asking() {
    Sentences.holds("Terms 3", "Asked, nothing stays changed.", () -> {
      NumberSpeech x = Bench.by(30, "say 0 as %1;say 1 as a;say 2 as a b~c;say 3 to 20 as -1;say 21 to 25 as +5;", "say 1 to 3 as a;say 7 as b -8;");
      Bench.text(x, "language 0;say ?");
      Bench.bring(x, "a a");
      String before = Bench.state(x);
      for (int language = 0; language < 2; language++) {
        int l = language;
        for (int n : new int[] {-1, 0, 2, 7, 20, 25, 40, 5000}) {
          for (int what = 0; what < 3; what++) {
            x.said(l, n, what);
            x.chain(l, n, what);
          }
          x.at(l, n, 1);
          x.asked(l, n);
          x.heard(l, n);
          x.order(l, n);
          for (int k = 0; k < x.causes(l, n); k++) x.cause(l, n, k, 0);
          if (n >= 0) x.fits(l, n);
        }
        for (int what = 0; what < 5; what++) x.silent(l, what);
        for (int what = 0; what < 4; what++) x.alike(l, what);
        for (int what = 0; what < 3; what++) {
          x.read(l, 3, what);
          x.ways(l, 3, what);
          x.words(l, what);
        }
        x.stretches(l, 3);
        x.way(l, 3, 0, 0);
        x.longest(l, 0);
        x.longest(l, 1);
        x.fixed(l);
        x.needless(l);
      }
      x.same();
      Bench.due("all is as it was", Bench.state(x), before);
      Bench.due("the tape, too", () -> x.read(0, 1, 1), 1);
      Bench.due("the tape, too", () -> x.ways(0, 3, 1), 2);
      NumberSpeech y = Bench.by(10, "say 0 as a;say 1 to 10 as -1;say 5 as x;", "");
      int needless = y.needless(0);
      for (int i = 0; i < 3; i++) {
        Bench.due("needless, once more", () -> y.needless(0), needless);
        Bench.dueSaid(y, 0, 5, "a");
        Bench.due("causes of 11, once more", () -> y.causes(0, 11), 1);
        Bench.due("order, once more", () -> y.order(0, 10), 10);
      }
    });
  }

  // ---- promise 19 ----

  private static void silent() {
    Sentences.holds("Promise 19", "0 how many, 1 the first (NONE), 2 GAPS, 3 numbers of the longest GAP (0), 4 its first one", () -> {
      NumberSpeech x = Bench.by(9, "say 0 to 9 as a;", "");
      Bench.dueRow("none is silent", w -> x.silent(0, w), 0, -1, 0, 0, -1);
      Bench.dueRow("all are silent", w -> x.silent(1, w), 10, 0, 1, 10, 0);
      x.limit(10);
      Bench.dueRow("the limit alone is silent", w -> x.silent(0, w), 1, 10, 1, 1, 10);
      x.limit(1000);
      Bench.dueRow("all are silent", w -> x.silent(1, w), 1001, 0, 1, 1001, 0);
      Bench.dueRow("991 are silent", w -> x.silent(0, w), 991, 10, 1, 991, 10);
      NumberSpeech y = Bench.by(9, "say 1 to 9 as a;", "say 0 to 9 as %1;");
      Bench.dueRow("0 alone is silent", w -> y.silent(0, w), 1, 0, 1, 1, 0);
      Bench.dueRow("said as nothing", w -> y.silent(1, w), 0, -1, 0, 0, -1);
    });
    Sentences.holds("Promise 19", "of alike ones the first GAP; NONE", () -> {
      NumberSpeech x = Bench.by(9, "say 0 to 1 as a;say 4 to 5 as a;say 8 to 9 as a;", "say 0 to 9 every 2 1 as a;");
      Bench.dueRow("two gaps of two", w -> x.silent(0, w), 4, 2, 2, 2, 2);
      Bench.dueRow("five gaps of one", w -> x.silent(1, w), 5, 0, 5, 1, 0);
      x.limit(12);
      Bench.dueRow("a longer one behind", w -> x.silent(0, w), 7, 2, 3, 3, 10);
      x.limit(11);
      Bench.dueRow("three of two", w -> x.silent(0, w), 6, 2, 3, 2, 2);
    });
    Sentences.holds("Terms 2", "that are SILENT, the first one's next ahead not being so, the last one's next behind neither (or not of ALL)", () -> {
      NumberSpeech x = Bench.by(8, "say 3 as a;say 5 to 6 as a;", "say 0 as a;say 8 as a;");
      Bench.dueRow("gaps at 0, within, at the limit", w -> x.silent(0, w), 6, 0, 3, 3, 0);
      Bench.dueRow("one gap within", w -> x.silent(1, w), 7, 1, 1, 7, 1);
      x.limit(7);
      Bench.dueRow("it ends at the limit", w -> x.silent(1, w), 7, 1, 1, 7, 1);
      Bench.dueRow("it is the limit alone", w -> x.silent(0, w), 5, 0, 3, 3, 0);
      x.limit(6);
      Bench.dueRow("it ends at the limit", w -> x.silent(1, w), 6, 1, 1, 6, 1);
      Bench.dueRow("none at the limit", w -> x.silent(0, w), 4, 0, 2, 3, 0);
    });
  }

  // ---- promise 20 ----

  private static void alike() {
    Sentences.holds("Terms 2", "Two of ALL are ALIKE in a LANGUAGE, if they are not SILENT and SAID alike.", () -> {
      NumberSpeech x = Bench.by(5, "say 0 to 1 as %1;say 2 as a b;say 3 as a~b;say 6 as a b;", "say 2 as a;say 3 as -1;say 6 as a;");
      Bench.dueRow("said as nothing is alike", w -> x.alike(0, w), 2, 0, 1, 3);
      Bench.dueRow("silent ones are not", w -> x.alike(1, w), 2, 2, 3, 1);
      x.limit(6);
      Bench.dueRow("the limit is one of them", w -> x.alike(0, w), 4, 0, 1, 3);
      Bench.dueRow("three alike", w -> x.alike(1, w), 3, 2, 3, 1);
      x.limit(2);
      Bench.dueRow("one alone is not", w -> x.alike(1, w), 0, -1, -1, 1);
    });
    Sentences.holds("Promise 20", "0 how many are ALIKE another one, 1 the least of these (NONE), 2 the least that is ALIKE that (NONE), 3 how many unlike texts are SAID.", () -> {
      NumberSpeech x = Bench.by(9, "say 0 as z;say 1 as b;say 2 to 3 as a;say 4 as c;say 8 as b;say 9 as b;", "");
      Bench.dueRow("2 groups", w -> x.alike(0, w), 5, 1, 8, 4);
      x.limit(7);
      Bench.dueRow("1 group", w -> x.alike(0, w), 2, 2, 3, 4);
      x.limit(2);
      Bench.dueRow("none alike", w -> x.alike(0, w), 0, -1, -1, 3);
      Bench.dueRow("all silent", w -> x.alike(1, w), 0, -1, -1, 0);
      Bench.rules(x, 1, "say 0 to 1000 as a;");
      x.limit(1000);
      Bench.dueRow("all alike", w -> x.alike(1, w), 1001, 0, 1, 1);
      Bench.rules(x, 1, "say 0 as z;say 1 to 9 as b~-1;say 10 to 1000 as /10~c~#10;");
      Bench.dueRow("all unlike", w -> x.alike(1, w), 0, -1, -1, 1001);
    });
  }

  // ---- promise 21 ----

  private static void read() {
    Sentences.holds("Terms 2", "READ of a text: those of ALL that are SAID so.", () -> {
      NumberSpeech x = Bench.by(10, "say 0 to 1 as %1;say 2 as a b;say 3 as ab;say 5 as a;say 10 as ab;say 11 as ab;", "say 4 as ab;");
      Bench.tape(x, "ab");
      dueRead(x, 2, 2, 3, 10);
      dueRead(x, 1, 1, 5, 5);
      dueRead(x, 3, 0, -1, -1);
      dueRead(x, 0, 2, 0, 1);
      x.limit(11);
      dueRead(x, 2, 3, 3, 11);
      x.limit(9);
      dueRead(x, 2, 1, 3, 3);
      x.limit(2);
      dueRead(x, 2, 0, -1, -1);
      NumberSpeech y = Bench.by(1000, "say 999 as b;say 1000 as a;say 0 as ab;say 1001 to 999999999 as c;", "");
      Bench.tape(y, "ab");
      for (int n = 1000; n <= 1400; n++) {
        int above = n;
        if (n % 50 == 0) dueRead(y, 1, 1, 1000, 1000);
        Bench.due("said of " + n, () -> y.said(0, above, 0), 1);
      }
      dueRead(y, 1, 1, 1000, 1000);
      dueRead(y, 2, 1, 0, 0);
      Bench.tape(y, "b");
      Bench.due("said of 999 alone", () -> y.read(0, 1, 1), 999);
      for (String other : new String[] {"a  b", " a b", "a b ", "A b", "a\u0000b", "a\tb"}) {
        int n = Bench.tape(x, other);
        dueRead(x, n, 0, -1, -1);
      }
    });
    Sentences.holds("Promise 21", "READ of the first n bytes of the TAPE (that stays): 0 how many, 1 the first (NONE), 2 the last (NONE).", () -> {
      NumberSpeech x = Bench.by(1000, "say 0 to 1000 as a;", HUNDRED);
      Bench.tape(x, "aa");
      dueRead(x, 1, 1001, 0, 1000);
      dueRead(x, 2, 0, -1, -1);
      dueRead(x, 0, 0, -1, -1);
      dueRead(x, 20, 0, -1, -1);
      Bench.due("the tape stays", () -> x.told(1), 20);
      dueRead(x, 1, 1001, 0, 1000);
      int n = Bench.tape(x, Bench.said(x, 1, 2) + "a");
      Bench.dueRow("a hundred bytes", w -> x.read(1, 100, w), 1, 2, 2);
      Bench.dueRow("a byte more", w -> x.read(1, n, w), 0, -1, -1);
      Bench.dueRow("a byte less", w -> x.read(1, 99, w), 0, -1, -1);
      Bench.tape(x, "a".repeat(400));
      Bench.dueRow("400 bytes", w -> x.read(1, 400, w), 0, -1, -1);
      NumberSpeech y = new NumberSpeech();
      Bench.dueRow("without rules, without a tape", w -> y.read(0, 0, w), 0, -1, -1);
      Bench.bring(y, "\u00ff\u0080\u0000");
      Bench.dueRow("high bytes", w -> y.read(0, 3, w), 0, -1, -1);
    });
    Sentences.holds("Promise 21", "IllegalArgumentException: also n is not 0 to its bytes.", () -> {
      NumberSpeech x = Bench.by("say 0 as %1;");
      Bench.wrong("1 of none", () -> x.read(0, 1, 0));
      Bench.due("0 of none", () -> x.read(0, 0, 0), 1);
      Bench.bring(x, "a");
      for (int n : new int[] {-1, 21, 400, 401, Integer.MAX_VALUE, Integer.MIN_VALUE}) Bench.wrong("read(0," + n + ",0)", () -> x.read(0, n, 0));
      Bench.due("20 of 20", () -> x.read(0, 20, 0), 0);
      Bench.due("the tape stays", () -> x.told(1), 20);
      Bench.due("refused", () -> x.status(1), 7);
    });
  }

  // ---- promises 22 to 24 ----

  private static void chart() {
    Sentences.holds("Terms 2", "its WORDS: parts between blanks, 40 at most", () -> {
      NumberSpeech x = Bench.by(100, TIMES, "");
      Bench.tape(x, "a ".repeat(41));
      Bench.due("40 words", () -> x.stretches(0, 80), 820);
      Bench.due("40 words", () -> x.stretches(0, 79), 820);
      Bench.wrong("stretches of 41 words", () -> x.stretches(0, 81));
      Bench.wrong("ways of 41 words", () -> x.ways(0, 82, 0));
      Bench.wrong("way of 41 words", () -> x.way(0, 81, 0, 0));
      Bench.due("refused", () -> x.status(1), 3);
      Bench.tape(x, "  a   a    a ");
      Bench.due("blanks ahead, behind and more than one", () -> x.stretches(0, 13), 6);
      Bench.due("of a stretch", () -> x.way(0, 13, 0, 1), 3);
      Bench.tape(x, "aa");
      Bench.due("one word", () -> x.stretches(0, 2), 0);
      Bench.tape(x, "a".repeat(400));
      Bench.due("one word of 400 bytes", () -> x.stretches(0, 400), 0);
    });
    Sentences.holds("Terms 2", "of each stretch of its WORDS, one behind the other, READ of these with one blank between", () -> {
      NumberSpeech x = Bench.by(10, "say 1 as a b;say 2 as ab;say 3 as b;say 4 as a~b c;say 5 as b c d;say 11 as c;", "");
      Bench.tape(x, "a    b c  d ab  c");
      Bench.due("a b, b, b c d, ab, ab c", () -> x.stretches(0, 17), 5);
      x.limit(11);
      Bench.due("and c twice", () -> x.stretches(0, 17), 7);
      NumberSpeech y = Bench.by(10, HUNDRED, "");
      int n = Bench.tape(y, Bench.said(y, 0, 2).replace(" ", "  ") + " a");
      Bench.due("a hundred bytes", () -> y.ways(0, n - 2, 0), 1);
      Bench.due("and more", () -> y.ways(0, n, 0), 0);
      Bench.due("stretches: the hundred, fifty at either end", () -> y.stretches(0, n), 1);
    });
  }

  private static void ways() {
    Sentences.holds("Promise 22", "n is not 1 to its bytes, they are not small letters and blanks alone, more than 40 WORDS", () -> {
      NumberSpeech x = Bench.by("say 1 as a;say 2 as z;");
      Bench.wrong("1 of none", () -> x.ways(0, 1, 0));
      Bench.bring(x, "a z");
      for (int n : new int[] {0, -1, 21, 400, 401, Integer.MAX_VALUE, Integer.MIN_VALUE}) {
        Bench.wrong("ways(0," + n + ",0)", () -> x.ways(0, n, 0));
        Bench.wrong("way(0," + n + ",0,0)", () -> x.way(0, n, 0, 0));
        Bench.wrong("stretches(0," + n + ")", () -> x.stretches(0, n));
      }
      Bench.due("1", () -> x.ways(0, 1, 0), 1);
      Bench.due("3", () -> x.ways(0, 3, 0), 1);
      Bench.wrong("a zero behind", () -> x.ways(0, 4, 0));
      Bench.due("refused", () -> x.status(1), 23);
      for (String sign : new String[] {"A", "Z", "0", "~", "`", "{", "\t", "\n", "\u001f", "!", "\u00e1", "\u00ff", ";"}) {
        Bench.tape(x, "a z" + sign);
        Bench.wrong("ways of '" + sign + "'", () -> x.ways(0, 4, 0));
        Bench.due("ways ahead of it", () -> x.ways(0, 3, 0), 1);
        Bench.tape(x, sign + "a");
        Bench.wrong("stretches of '" + sign + "' at first", () -> x.stretches(0, 2));
      }
      Bench.tape(x, "a ".repeat(41));
      Bench.due("40 words", () -> x.ways(0, 80, 0), 1);
      Bench.wrong("41 words", () -> x.ways(0, 81, 0));
      Bench.tape(x, "a ".repeat(200));
      Bench.wrong("200 words", () -> x.ways(0, 400, 0));
      Bench.tape(x, " ".repeat(399) + "z");
      Bench.due("400 bytes", () -> x.ways(0, 400, 2), 2);
      Bench.due("the tape stays", () -> x.told(1), 400);
    });
    Sentences.holds("Promise 22", "0 how many (held at 1,000,000,000; without WORDS 1)", () -> {
      NumberSpeech x = Bench.by(1000, "say 1 to 10 as a;say 11 to 19 as b;say 20 to 1000 as c;", "");
      dueHeard(x, "a a a a a a a a b", 900000000, 9, 8 + 11);
      dueHeard(x, "a a a a a a a a a", 1000000000, 9, 9);
      dueHeard(x, "a a a a a a a a a a", 1000000000, 10, 10);
      dueHeard(x, "c c c", 981 * 981 * 981, 3, 60);
      dueHeard(x, "c c c b", 1000000000, 4, 71);
      dueHeard(x, "c ".repeat(40), 1000000000, 40, 800);
      dueHeard(x, "c ".repeat(39) + "x", 0, -1, -1);
      dueHeard(x, "x " + "c ".repeat(39), 0, -1, -1);
      dueHeard(x, " ", 1, 0, 0);
      dueHeard(x, " ".repeat(400), 1, 0, 0);
      Bench.due("stretches without words", () -> x.stretches(0, 400), 0);
      Bench.dueRow("without words, without rules", w -> x.ways(1, 400, w), 1, 0, 0);
      Bench.rules(x, 1, "say 0 as %1;");
      Bench.tape(x, "    ");
      Bench.dueRow("without words, where nothing is said of 0", w -> x.ways(1, 4, w), 1, 0, 0);
    });
    Sentences.holds("Promise 22", "1 stretches of THE WAY (NONE: there is none), 2 the numbers of THE WAY added up (NONE; held at 1,000,000,000)", () -> {
      NumberSpeech x = Bench.by(1000, "say 1000 as a;say 0 as b;say 7 as a b;", TIMES);
      dueHeard(x, "a", 1, 1, 1000);
      dueHeard(x, "b", 1, 1, 0);
      dueHeard(x, "b b b", 1, 3, 0);
      dueHeard(x, "a ".repeat(40), 1, 40, 40000);
      dueHeard(x, "a b", 2, 1, 7);
      dueHeard(x, "a c", 0, -1, -1);
      Bench.dueRow("in a language that says none of it", w -> x.ways(1, 3, w), 0, -1, -1);
      Bench.tape(x, "a ".repeat(40));
      Bench.dueRow("one stretch of 40 words", w -> x.ways(1, 80, w), 1000000000, 1, 40);
    });
    Sentences.holds("Terms 2", "A WAY to hear it: stretches one behind the other, of all its WORDS, each with a number of its READ.", () -> {
      NumberSpeech x = Bench.by(20, "say 1 as a;say 2 to 4 as b;say 5 to 6 as a b;say 7 as b c;", "");
      dueHeard(x, "a b", 3 + 2, 1, 5);
      dueHeard(x, "a b c", 1, 2, 8);
      dueHeard(x, "b c", 1, 1, 7);
      dueHeard(x, "c", 0, -1, -1);
      dueHeard(x, "c a", 0, -1, -1);
      dueHeard(x, "a c", 0, -1, -1);
      dueHeard(x, "a b b", 9 + 6, 2, 7);
    });
  }

  private static void dueWay(NumberSpeech x, String text, int[]... stretches) {
    int n = Bench.tape(x, text);
    int sum = 0;
    for (int[] stretch : stretches) sum += stretch[0];
    int numbers = sum;
    Bench.due("stretches of '" + text + "'", () -> x.ways(0, n, 1), stretches.length);
    Bench.due("sum of '" + text + "'", () -> x.ways(0, n, 2), numbers);
    for (int k = 0; k < stretches.length; k++) {
      int at = k;
      Bench.dueRow("stretch " + k + " of '" + text + "'", w -> x.way(0, n, at, w), stretches[k]);
    }
    Bench.missing("no more of '" + text + "'", () -> x.way(0, n, stretches.length, 0));
  }

  private static void way() {
    Sentences.holds("Terms 2", "of all the one with the fewest stretches, of alike ones the one whose first stretch that differs is the longer, each with the least number of its READ", () -> {
      NumberSpeech x = Bench.by(20, "say 1 as a;say 2 as a a;say 3 as a a a;say 14 to 16 as a a a a;say 5 as x;say 6 as b c d e;say 7 as a b c;say 8 to 9 as d;say 10 as e;", "");
      dueWay(x, "a a a a a", new int[] {14, 4}, new int[] {1, 1});
      dueWay(x, "a a a a a a", new int[] {14, 4}, new int[] {2, 2});
      dueWay(x, "a a a a a a a a", new int[] {14, 4}, new int[] {14, 4});
      dueWay(x, "a a a a a a a a a", new int[] {14, 4}, new int[] {14, 4}, new int[] {1, 1});
      dueWay(x, "x a a a a a a", new int[] {5, 1}, new int[] {14, 4}, new int[] {2, 2});
      dueWay(x, "a b c d e", new int[] {1, 1}, new int[] {6, 4});
      dueWay(x, "a b c d", new int[] {7, 3}, new int[] {8, 1});
      Bench.due("ways of six", () -> x.ways(0, Bench.tape(x, "a a a a a a"), 0), 39);
    });
    Sentences.holds("Promise 23", "Of the k-th stretch of THE WAY (NoSuchElementException: no such one, behind IllegalArgumentException of n; what last): 0 its number, 1 how many WORDS.", () -> {
      NumberSpeech x = Bench.by(100, TIMES, "say 0 as b;say 1 to 3 as a;");
      Bench.tape(x, "a ".repeat(41));
      Bench.dueRow("40 words in one", w -> x.way(0, 80, 0, w), 40, 40);
      Bench.missing("one alone", () -> x.way(0, 80, 1, 0));
      Bench.dueRow("the first of 40", w -> x.way(1, 80, 0, w), 1, 1);
      Bench.dueRow("the last of 40", w -> x.way(1, 80, 39, w), 1, 1);
      for (int k : new int[] {40, -1, 41, Integer.MAX_VALUE, Integer.MIN_VALUE}) Bench.missing("stretch " + k, () -> x.way(1, 80, k, 0));
      Bench.missing("no such one, ahead of what", () -> x.way(1, 80, 40, 2));
      Bench.wrong("41 words, ahead of no such one", () -> x.way(1, 82, 40, 0));
      Bench.wrong("n of 0, ahead of no such one", () -> x.way(1, 0, -1, 2));
      Bench.missing("no language, ahead of n", () -> x.way(2, 0, -1, 2));
      Bench.due("missing", () -> x.status(0), 8);
      Bench.due("wrong", () -> x.status(1), 14);
      Bench.tape(x, " ");
      Bench.missing("without words", () -> x.way(0, 1, 0, 0));
      Bench.tape(x, "b c");
      Bench.missing("there is no way", () -> x.way(1, 3, 0, 0));
      Bench.dueRow("number 0", w -> x.way(1, 1, 0, w), 0, 1);
    });
    Sentences.holds("Promise 24", "How many stretches of WORDS of such a text are READ as any number.", () -> {
      NumberSpeech x = Bench.by(50, TIMES, "say 0 as b;say 1 to 3 as a;say 4 as %1;");
      Bench.tape(x, "a ".repeat(40));
      Bench.due("all of 40 words", () -> x.stretches(0, 80), 820);
      Bench.due("each alone, by three numbers", () -> x.stretches(1, 80), 40);
      x.limit(39);
      Bench.due("but for the whole", () -> x.stretches(0, 80), 819);
      Bench.tape(x, "x b y a");
      Bench.due("in no way", () -> x.stretches(1, 7), 2);
      Bench.due("none", () -> x.stretches(1, 1), 0);
      Bench.tape(x, "  ");
      Bench.due("without words", () -> x.stretches(1, 2), 0);
    });
  }

  // ---- promises 25 and 26 ----

  private static void both() {
    Sentences.holds("Promise 25", "READ of what a number is SAID in the other LANGUAGE, in this one: how many; NONE: it is SILENT there.", () -> {
      NumberSpeech x = Bench.by(10, "say 0 to 4 as a;say 10 to 20 as b;say 8 as %1;say 9 as +1;say 7 as a~b;", "say 1 as a;say 2 as b;say 3 as x;say 999999999 as a;say 6 as %1;say 4 as +1;say 2000 as a b;");
      int[][] due = {{0, -1}, {1, 5}, {2, 2}, {3, 0}, {4, -1}, {6, 1}, {999999999, 5}, {2000, 0}, {-1, -1}, {1000000000, -1}, {Integer.MAX_VALUE, -1}, {Integer.MIN_VALUE, -1}};
      for (int[] row : due) Bench.due("heard(0," + row[0] + ")", () -> x.heard(0, row[0]), row[1]);
      int[][] back = {{0, 1}, {4, 1}, {5, -1}, {8, 1}, {9, 1}, {10, 1}, {20, 1}, {7, 0}, {21, -1}};
      for (int[] row : back) Bench.due("heard(1," + row[0] + ")", () -> x.heard(1, row[0]), row[1]);
      x.limit(11);
      Bench.due("of all", () -> x.heard(0, 2), 3);
      x.limit(1);
      Bench.due("of all", () -> x.heard(0, 1), 2);
      Bench.due("none", () -> x.heard(0, 2), 0);
      Bench.due("itself above the limit", () -> x.heard(0, 999999999), 2);
    });
    Sentences.holds("Promise 26", "How many of ALL are SAID alike in both LANGUAGES.", () -> {
      NumberSpeech x = Bench.by(10, "say 0 as %1;say 1 as a b;say 2 as ab;say 3 as a;say 5 as +1;say 10 as c;say 11 as d;", "say 0 as %1;say 1 as a b;say 2 as a b;say 4 as a;say 5 as +1;say 10 as c;say 11 as d;");
      Bench.due("0, 1 and 10; silent ones are none", () -> x.same(), 3);
      x.limit(9);
      Bench.due("to the limit", () -> x.same(), 2);
      x.limit(11);
      Bench.due("to the limit", () -> x.same(), 4);
      x.limit(1000);
      Bench.rules(x, 0, "say 0 to 1000 as a;");
      Bench.rules(x, 1, "say 0 to 1000 as a;");
      Bench.due("all", () -> x.same(), 1001);
      x.drop(1, 0);
      Bench.due("none", () -> x.same(), 0);
      Bench.due("none of a new object", () -> new NumberSpeech().same(), 0);
    });
  }

  // ---- promises 27 and 28 ----

  private static void order() {
    Sentences.holds("Terms 2", "byte by byte; one that begins another one ahead of it; of ALIKE ones the lesser number", () -> {
      NumberSpeech x = Bench.by(20, "say 0 as b;say 1 as a b;say 2 as ab;say 3 as a;say 4 as aa;say 5 as a z;say 6 as %1;say 7 as a;say 8 as az;say 9 as z;say 10 as a a;say 11 as a;say 12 as %1;", "");
      int[] due = {6, 12, 3, 7, 11, 10, 1, 5, 4, 2, 8, 0, 9, -1};
      for (int k = 0; k < due.length; k++) {
        int at = k;
        Bench.due("order " + k, () -> x.order(0, at), due[k]);
      }
    });
    Sentences.holds("Promise 27", "The k-th in ORDER; NONE: there are not so many, or k is below 0.", () -> {
      NumberSpeech x = Bench.by(1000, "say 0 to 1000 as a;", "say 5 as b;say 3 as c;");
      Bench.due("the first", () -> x.order(0, 0), 0);
      Bench.due("the last", () -> x.order(0, 1000), 1000);
      for (int k : new int[] {1001, 1002, -1, Integer.MAX_VALUE, Integer.MIN_VALUE}) Bench.due("order " + k, () -> x.order(0, k), -1);
      Bench.due("two", () -> x.order(1, 0), 5);
      Bench.due("two", () -> x.order(1, 1), 3);
      Bench.due("not three", () -> x.order(1, 2), -1);
      x.limit(4);
      Bench.due("to the limit", () -> x.order(1, 0), 3);
      Bench.due("not two", () -> x.order(1, 1), -1);
      x.limit(2);
      Bench.due("none", () -> x.order(1, 0), -1);
      Bench.due("none was refused", () -> x.status(0) + x.status(1), 0);
    });
  }

  private static void longest() {
    Sentences.holds("Promise 28", "most bytes (what 0), fewest (1), of alike ones the first; NONE: all are SILENT.", () -> {
      NumberSpeech x = Bench.by(10, "say 2 as abc;say 3 as a b;say 4 as ab;say 5 as a b;say 6 as ab;say 10 as abcd;say 11 as abcde;say 12 as a;", "");
      Bench.dueRow("to 10", w -> x.longest(0, w), 10, 4);
      x.limit(9);
      Bench.dueRow("of alike ones the first", w -> x.longest(0, w), 2, 4);
      x.limit(12);
      Bench.dueRow("to 12", w -> x.longest(0, w), 11, 12);
      Bench.dueRow("all are silent", w -> x.longest(1, w), -1, -1);
      x.limit(1);
      Bench.dueRow("all are silent", w -> x.longest(0, w), -1, -1);
      Bench.rules(x, 1, "say 0 to 1 as %1;");
      Bench.dueRow("nothing", w -> x.longest(1, w), 0, 0);
      Bench.rules(x, 1, "say 0 as a;say 1 as %1;");
      Bench.dueRow("nothing is fewest", w -> x.longest(1, w), 0, 1);
      Bench.rules(x, 1, HUNDRED + "say 0 as +2 %1;say 3 as +999997;say 1000000 as b~c;");
      x.limit(3);
      Bench.dueRow("a hundred bytes", w -> x.longest(1, w), 0, 3);
    });
  }

  // ---- promises 29 to 31 ----

  private static void chain() {
    Sentences.holds("Terms 2", "as long as none is SILENT, and none comes again", () -> {
      NumberSpeech x = Bench.by("say 1 as ab;say 2 as a b c;say 3 as a;say 9 as a bc;say 4 as abcd;say 5 as abc defg;say 50 as abcd;say 60 as ab~abc;", "");
      Bench.dueRow("1, 2, 3, 1", w -> x.chain(0, 1, w), 3, 3, 1);
      Bench.dueRow("9, 3, 1, 2, 3", w -> x.chain(0, 9, w), 4, 2, 3);
      Bench.dueRow("4, 4", w -> x.chain(0, 4, w), 1, 4, 4);
      Bench.dueRow("50, 4, 4", w -> x.chain(0, 50, w), 2, 4, 4);
      Bench.dueRow("5, 7 is silent", w -> x.chain(0, 5, w), 1, 5, -1);
      Bench.dueRow("60, 5, 7 is silent", w -> x.chain(0, 60, w), 2, 5, -1);
    });
    Sentences.holds("Promise 29", "0 how many it has (0: it is SILENT), 1 the last of it (NONE), 2 the number that would come again (NONE: none would: what would come is SILENT).", () -> {
      NumberSpeech x = Bench.by(2, "say 0 as %1;say 5 as %1;say 6 as a;say 999999999 as abcde;", "say 6 as +1;say 7 as a;say 5 as abcdef;");
      Bench.dueRow("0, 0", w -> x.chain(0, 0, w), 1, 0, 0);
      Bench.dueRow("5, 0, 0", w -> x.chain(0, 5, w), 2, 0, 0);
      Bench.dueRow("6, 1 is silent", w -> x.chain(0, 6, w), 1, 6, -1);
      Bench.dueRow("above the limit", w -> x.chain(0, 999999999, w), 3, 0, 0);
      for (int n : new int[] {7, -1, 1000000000, Integer.MAX_VALUE, Integer.MIN_VALUE}) Bench.dueRow("silent " + n, w -> x.chain(0, n, w), 0, -1, -1);
      Bench.dueRow("7, 1 is silent", w -> x.chain(1, 7, w), 1, 7, -1);
      Bench.dueRow("6, 1 is silent", w -> x.chain(1, 5, w), 2, 6, -1);
      NumberSpeech y = Bench.by("say 1000 to 1001 as %1;say 0 as a;say 100 as -81;say 1 to 9 as -1~b;say 10 to 99 as -10~cccccccc~dd;");
      Bench.due("100 has 20 letters", () -> y.said(0, 100, 2), 20);
      Bench.dueRow("1000, 0, 1 .. 100, 20: the longest", w -> y.chain(0, 1000, w), 102, 100, 20);
      Bench.dueRow("0, 1 .. 100, 20", w -> y.chain(0, 0, w), 101, 100, 20);
      y.drop(0, 2);
      Bench.dueRow("1000, 0, 1 .. 99: 100 is silent", w -> y.chain(0, 1000, w), 101, 99, -1);
    });
  }

  private static void fixed() {
    Sentences.holds("Promise 30", "How many of ALL have as many LETTERS as they are.", () -> {
      NumberSpeech x = Bench.by(5, "say 0 as %1;say 1 as b;say 2 as b c;say 3 as b c;say 4 as abcde;say 5 as abc~d e;say 6 as abcdef;say 8 as +1;", "say 0 as a;");
      Bench.due("0, 1, 2, 5", () -> x.fixed(0), 4);
      Bench.due("none", () -> x.fixed(1), 0);
      x.limit(4);
      Bench.due("to the limit", () -> x.fixed(0), 3);
      x.limit(6);
      Bench.due("to the limit", () -> x.fixed(0), 5);
      x.limit(1000);
      Bench.due("of all", () -> x.fixed(0), 5);
      NumberSpeech y = Bench.by(100, "say 24 as aaaaaaaa~aaaaaaaa~aaaaaaaa;say 48 as -24~-24;say 96 as /2~/2;", "");
      Bench.due("24, 48, 96", () -> y.fixed(0), 3);
    });
    Sentences.holds("Terms 2", "LETTERS of a number: bytes of what is SAID, without blanks.", () -> {
      NumberSpeech x = Bench.by("say 0 as %1;say 1 as a b c;say 2 as abc;say 3 as -1~-2;" + LATER_HUNDRED);
      int[] due = {0, 3, 3, 6};
      for (int n = 0; n < due.length; n++) {
        int number = n;
        Bench.due("letters of " + n, () -> x.said(0, number, 2), due[n]);
      }
      Bench.due("of fifty bytes", () -> x.said(0, 11, 2), 45);
      Bench.due("of a hundred bytes", () -> x.said(0, 12, 2), 90);
    });
  }

  private static void words() {
    Sentences.holds("Promise 31", "0 how many unlike ones, 1 how often the one that is most often among them is (0), 2 its letters (of alike often ones the first by bytes; 0).", () -> {
      NumberSpeech x = Bench.by(9, "say 0 as %1;say 1 as ba b bab;say 2 as b~a b~ab;say 3 as b;say 9 as bab c~c;say 10 as cc cc cc;", "");
      Bench.dueRow("bab 3", w -> x.words(0, w), 4, 3, 3);
      x.limit(8);
      Bench.dueRow("b, ba, bab 2 each", w -> x.words(0, w), 3, 2, 1);
      x.limit(10);
      Bench.dueRow("cc 4", w -> x.words(0, w), 4, 4, 2);
      x.limit(1);
      Bench.dueRow("one each", w -> x.words(0, w), 3, 1, 1);
      Bench.dueRow("all are silent", w -> x.words(1, w), 0, 0, 0);
      Bench.rules(x, 1, "say 0 to 1 as %1;");
      Bench.dueRow("nothing", w -> x.words(1, w), 0, 0, 0);
      Bench.rules(x, 1, "say 0 as ab aa;say 1 as abc aab;");
      Bench.dueRow("the first by bytes", w -> x.words(1, w), 4, 1, 2);
      Bench.rules(x, 1, "say 0 as b;say 1 as aaaaaaaa~aaaaaaaa;");
      Bench.dueRow("the first by bytes is the longer", w -> x.words(1, w), 2, 1, 16);
      x.limit(1000);
      Bench.rules(x, 1, "say 0 to 1000 as a a a a a a;");
      Bench.dueRow("most often", w -> x.words(1, w), 1, 6006, 1);
      Bench.rules(x, 1, "say 0 as z;say 1 to 9 as b~-1;say 10 to 1000 as /10~c~#10;");
      Bench.dueRow("all unlike", w -> x.words(1, w), 1001, 1, 10);
      Bench.rules(x, 1, LATER_HUNDRED);
      Bench.dueRow("eights 5 + 9, fives 1 + 1, thirteens 1", w -> x.words(1, w), 3, 14, 8);
    });
    Sentences.holds("Terms 2", "WORDS of what is SAID: parts between blanks.", () -> {
      NumberSpeech x = Bench.by("say 0 as %1;say 1 as a;say 2 as a~b c;say 3 as -1 ~ d -1;" + LATER_HUNDRED);
      int[] due = {0, 1, 2, 4};
      for (int n = 0; n < due.length; n++) {
        int number = n;
        Bench.due("words of " + n, () -> x.said(0, number, 1), due[n]);
      }
      Bench.due("of fifty bytes", () -> x.said(0, 11, 1), 6);
      Bench.due("of a hundred bytes", () -> x.said(0, 12, 1), 11);
      Bench.due("of a silent one", () -> x.said(0, 13, 1), -1);
    });
  }

  // ---- promises 32 and 33 ----

  private static void needless() {
    Sentences.holds("Promise 32", "RULES (bits) without each of which, alone, what is SAID of ALL (and which are SILENT) is as it is.", () -> {
      NumberSpeech x = Bench.by(20, "say 0 as a;say 20 as b;say 21 as c;say 20 as d;say 5 as e;say 5 as e;say 7 as +1;say 0 to 3 as +900;", "say 1 as a;");
      Bench.due("21, the second 20, each 5, 7, 0 to 3", () -> x.needless(0), 0b11111100);
      x.limit(21);
      Bench.due("21 is needed", () -> x.needless(0), 0b11111000);
      x.limit(19);
      Bench.due("20 is not", () -> x.needless(0), 0b11111110);
      Bench.due("the only one", () -> x.needless(1), 0);
      Bench.rules(x, 1, "say 20 as a;");
      Bench.due("the only one, above the limit", () -> x.needless(1), 1);
      Bench.rules(x, 1, "say 7 as +1;");
      Bench.due("the only one, all are silent by it", () -> x.needless(1), 1);
      Bench.rules(x, 1, "");
      Bench.due("none", () -> x.needless(1), 0);
      Bench.rules(x, 1, "say 0 as %1;say 1 as +4;say 5 as -5;say 6 as +30;say 36 as x;say 6 to 7 as x;");
      Bench.due("said as nothing is not silent; 36 is needed by 6", () -> x.needless(1), 0b1000);
      StringBuilder rules = new StringBuilder();
      for (int i = 0; i < 30; i++) rules.append("say").append(i).append("as a;");
      NumberSpeech thirty = Bench.by(29, rules.toString(), rules.toString().replace("say", "say9"));
      Bench.due("all are needed", () -> thirty.needless(0), 0);
      Bench.due("none is needed", () -> thirty.needless(1), 0x3fffffff);
      thirty.limit(28);
      Bench.due("the last one is not", () -> thirty.needless(0), 1 << 29);
      Bench.due("none went", () -> thirty.told(3), 30);
    });
  }

  private static void print() {
    Sentences.holds("Promise 33", "From 0 on, of ALL: 31 times what there is, and the bytes of what is SAID added up (1 if it is SILENT).", () -> {
      NumberSpeech x = Bench.by(1, "say 0 as a b;say 1 as %1;say 3 as z;", "");
      Bench.due("0 and 1", () -> x.print(0), 31L * (97 + 32 + 98));
      Bench.due("silence", () -> x.print(1), 32);
      x.limit(2);
      Bench.due("silent 2", () -> x.print(0), 31L * 31 * (97 + 32 + 98) + 1);
      x.limit(3);
      Bench.due("0 to 3", () -> x.print(0), (31L * 31 * (97 + 32 + 98) + 1) * 31 + 122);
      Bench.rules(x, 0, "say 0 to 1000 as %1;");
      x.limit(1000);
      Bench.due("nothing at all", () -> x.print(0), 0);
      Bench.rules(x, 0, "say 0 to 1000 as zzzzzzzz ~ zzzzzzzz;");
      java.math.BigInteger print = java.math.BigInteger.ZERO;
      java.math.BigInteger silence = java.math.BigInteger.ZERO;
      java.math.BigInteger times = java.math.BigInteger.valueOf(31);
      for (int n = 0; n <= 1000; n++) {
        print = print.multiply(times).add(java.math.BigInteger.valueOf(16 * 122));
        silence = silence.multiply(times).add(java.math.BigInteger.ONE);
      }
      long due = print.longValue();
      long dueSilence = silence.longValue();
      Bench.due("around the end of a long", () -> x.print(0), due);
      Bench.due("silence around the end of a long", () -> x.print(1), dueSilence);
      for (int limit = 11; limit <= 14; limit++) {
        x.limit(limit);
        long sum = 0;
        for (int n = 0; n <= limit; n++) sum = 31 * sum + 16 * 122;
        long dueSum = sum;
        Bench.due("to " + limit, () -> x.print(0), dueSum);
      }
    });
  }

  public static void all() {
    asking();
    silent();
    alike();
    read();
    chart();
    ways();
    way();
    both();
    order();
    longest();
    chain();
    fixed();
    words();
    needless();
    print();
  }

  public static void main(String[] args) {
    all();
    Bench.end("BoundsOfAll");
  }
}
