/** Promises 19 to 33: what comes of going over all numbers up to the limit. */
public final class PromisesOfAll {
  private static void promise19() {
    NumberSpeech x = Bench.by(20, "say 2 to 3 as a;say 6 as b;say 9 as c;say 12 to 17 as d;", "");
    Bench.dueRow("silent", w -> x.silent(0, w), 11, 0, 5, 3, 18);
    x.limit(19);
    Bench.dueRow("silent, of alike gaps the first", w -> x.silent(0, w), 10, 0, 5, 2, 0);
    x.limit(1000);
    Bench.dueRow("silent", w -> x.silent(0, w), 991, 0, 5, 983, 18);
    Bench.dueRow("silent, all", w -> x.silent(1, w), 1001, 0, 1, 1001, 0);
    Bench.text(x, "language 1;say 0 to 1000 as x;");
    Bench.dueRow("silent, none", w -> x.silent(1, w), 0, -1, 0, 0, -1);
    Bench.missing("silent of no language", () -> x.silent(2, 9));
    Bench.missing("silent of no language", () -> x.silent(-1, 0));
  }

  private static void promise20() {
    NumberSpeech x = Bench.by(20, "say 1 to 19 every 18 1 as b;say 2 to 17 every 5 2 as a;say 3 as c;say 5 as a~b;say 6 as a b;", "say 4 to 6 as x -4;");
    Bench.dueRow("alike", w -> x.alike(0, w), 6, 1, 19, 5);
    x.limit(12);
    Bench.dueRow("alike", w -> x.alike(0, w), 3, 2, 7, 5);
    x.limit(6);
    Bench.dueRow("alike, none", w -> x.alike(0, w), 0, -1, -1, 5);
    Bench.dueRow("alike, all silent", w -> x.alike(1, w), 0, -1, -1, 0);
    Bench.text(x, "language 1;say 3 to 900 as %1;");
    Bench.dueRow("alike, said as nothing", w -> x.alike(1, w), 4, 3, 4, 1);
    Bench.missing("alike of no language", () -> x.alike(2, 9));
  }

  private static void promise21() {
    NumberSpeech x = Bench.by(50, "say 3 to 60 every 20 3 as to as;say 4 as to~as;say 5 as to;say 7 to 8 as %1;say 55 as far;", "");
    int n = Bench.tape(x, "to asto");
    Bench.due("bytes of the tape", () -> n, 7);
    Bench.dueRow("read 'to as'", w -> x.read(0, 5, w), 3, 3, 43);
    Bench.dueRow("read 'to '", w -> x.read(0, 3, w), 0, -1, -1);
    Bench.dueRow("read 'to'", w -> x.read(0, 2, w), 1, 5, 5);
    Bench.dueRow("read 'to ast'", w -> x.read(0, 6, w), 0, -1, -1);
    Bench.dueRow("read ''", w -> x.read(0, 0, w), 2, 7, 8);
    Bench.dueRow("read in the empty language", w -> x.read(1, 0, w), 0, -1, -1);
    Bench.dueRow("read with zeros behind", w -> x.read(0, 20, w), 0, -1, -1);
    Bench.due("the tape stays", () -> x.told(1), 20);
    Bench.tape(x, " to");
    Bench.due("read ' to'", () -> x.read(0, 3, 0), 0);
    Bench.tape(x, "to  as");
    Bench.due("read 'to  as'", () -> x.read(0, 6, 0), 0);
    Bench.tape(x, "far");
    Bench.due("read of one above the limit", () -> x.read(0, 3, 0), 0);
    x.limit(55);
    Bench.due("read of one at the limit", () -> x.read(0, 3, 0), 1);
    x.drop(0, 4);
    Bench.due("read of one that is dropped", () -> x.read(0, 3, 0), 0);
    Bench.tape(x, "\u00ff\u00e9!");
    Bench.due("read of other bytes", () -> x.read(0, 3, 1), -1);
    readBehindHighOnes();
    Bench.wrong("read below 0", () -> x.read(0, -1, 0));
    Bench.wrong("read above the tape", () -> x.read(0, 21, 0));
    Bench.missing("read of no language", () -> x.read(2, 21, 9));
    String hundred = "aaaaaaaa bbbbbbbb cccccccc dddddddd eeeeeeee ffff";
    NumberSpeech y = Bench.by(50, "say 1 as " + hundred + ";say 2 as -1~-1 xx;", "");
    int long1 = Bench.tape(y, Bench.said(y, 0, 1));
    Bench.due("read of a long text", () -> y.read(0, long1, 1), 1);
  }

  /** High numbers that were said take nothing from those up to the limit. */
  private static void readBehindHighOnes() {
    String rules = "say 0 as z;say 1 to 9 as -1~a;say 10 to 999999999 as /10~%10;";
    NumberSpeech x = Bench.by(1000, rules, "");
    Bench.tape(x, "z");
    Bench.due("read of z", () -> x.read(0, 1, 0), 1);
    for (int n = 1001; n < 1401; n++) {
      int number = n;
      Bench.due("a high one is said", () -> x.said(0, number, 0) > 0 ? 1 : 0, 1);
    }
    Bench.due("read of z, once more", () -> x.read(0, 1, 1), 0);
    for (int k = 0; k < 1000; k += 7) {
      NumberSpeech y = Bench.by(1000, rules, "");
      int n = y.order(0, k);
      for (int high = 2001; high < 2161; high++) y.said(0, high, 0);
      int bytes = Bench.tape(y, Bench.said(y, 0, n));
      Bench.due("bytes of " + n, () -> y.said(0, n, 0), bytes);
      Bench.due("read of what " + n + " is said", String.valueOf(y.read(0, bytes, 1) <= n && y.read(0, bytes, 2) >= n), "true");
    }
    NumberSpeech z = Bench.by(1000, rules, "");
    int thousand = Bench.tape(z, Bench.said(z, 0, 1000));
    Bench.due("read of what 1000 is said", () -> z.read(0, thousand, 2), 1000);
    for (int n = 1001; n < 1201; n++) z.said(0, n, 0);
    Bench.due("read of what 1000 is said, once more", () -> z.read(0, thousand, 2), 1000);
  }

  private static final String HEARING = "say 1 as a;say 2 to 3 as b;say 4 as a b;say 5 as b c;say 6 as c;say 7 as a b c;say 8 as d %1;say 0 as %1;";

  private static void promise22() {
    NumberSpeech x = Bench.by(30, HEARING, "");
    int n = Bench.tape(x, "a  b c ");
    Bench.dueRow("ways", w -> x.ways(0, n, w), 5, 1, 7);
    Bench.dueRow("ways of a part", w -> x.ways(0, 4, w), 3, 1, 4);
    Bench.dueRow("ways of a blank more", w -> x.ways(0, 3, w), 1, 1, 1);
    Bench.dueRow("ways in the empty language", w -> x.ways(1, n, w), 0, -1, -1);
    int fewest = Bench.tape(x, "a b b c");
    Bench.dueRow("ways", w -> x.ways(0, fewest, w), 9, 2, 9);
    int none = Bench.tape(x, "a x b");
    Bench.dueRow("ways, none", w -> x.ways(0, none, w), 0, -1, -1);
    int longer = Bench.tape(x, "a b c d");
    Bench.dueRow("ways, the longer first", w -> x.ways(0, longer, w), 5, 2, 15);
    int blanks = Bench.tape(x, "    ");
    Bench.dueRow("ways without words", w -> x.ways(0, blanks, w), 1, 0, 0);
    int words = Bench.tape(x, "a ".repeat(40));
    Bench.dueRow("ways of 40 words", w -> x.ways(0, words, w), 1, 40, 40);
    Bench.due("the tape stays", () -> x.told(1), 80);
    dueRefusals(x);
    Bench.tape(x, "b ".repeat(29));
    Bench.dueRow("ways below the most", w -> x.ways(0, 58, w), 1 << 29, 29, 58);
    Bench.tape(x, "b ".repeat(30));
    Bench.dueRow("ways held", w -> x.ways(0, 60, w), 1_000_000_000, 30, 60);
    Bench.tape(x, "b ".repeat(40));
    Bench.dueRow("ways held", w -> x.ways(0, 80, w), 1_000_000_000, 40, 80);
    Bench.tape(x, "b ".repeat(39) + "x");
    Bench.dueRow("ways, none of many", w -> x.ways(0, 79, w), 0, -1, -1);
    hearingWhole();
    NumberSpeech long1 = Bench.by(10, "say 1 as aaaaaaaa~aaaaaaaa;say 2 as -1~-1;say 3 as -1~-1;say 4 as -1~-3~aaaa;", "");
    int wide = Bench.tape(long1, "a".repeat(84) + " " + "a".repeat(64));
    Bench.dueRow("ways of long words", w -> long1.ways(0, wide, w), 1, 2, 7);
  }

  private static void hearingWhole() {
    NumberSpeech x = Bench.by(10, "say 1 as a;say 2 as b c d e;say 3 as a b c;say 4 as d;say 5 as e;say 6 as x y z;", "");
    int n = Bench.tape(x, "a b c d e");
    Bench.dueRow("fewest ahead of the longer", w -> x.ways(0, n, w), 2, 2, 3);
    int whole = Bench.tape(x, "x y z a");
    Bench.dueRow("heard as a whole alone", w -> x.ways(0, whole, w), 1, 2, 7);
    NumberSpeech z = Bench.by(10, "say 1 as aaaaaaaa aaaaaaaa aaaaaaaa aaaaaaaa aaaaaaaa aaaaa;say 2 as -1~-1;", "");
    Bench.due("a hundred bytes", () -> z.said(0, 2, 0), 100);
    int hundred = Bench.tape(z, Bench.said(z, 0, 2));
    Bench.dueRow("a hundred bytes", w -> z.ways(0, hundred, w), 1, 1, 2);
    int more = Bench.tape(z, Bench.said(z, 0, 2) + "a");
    Bench.dueRow("a byte more", w -> z.ways(0, more, w), 0, -1, -1);
  }

  private static void dueRefusals(NumberSpeech x) {
    Bench.tape(x, "a ".repeat(41));
    Bench.wrong("ways of 41 words", () -> x.ways(0, 82, 0));
    Bench.due("ways of 40 of them", () -> x.ways(0, 80, 0), 1);
    Bench.wrong("ways of no bytes", () -> x.ways(0, 0, 0));
    Bench.wrong("ways below", () -> x.ways(0, -1, 0));
    Bench.wrong("ways above", () -> x.ways(0, 101, 0));
    Bench.missing("ways of no language", () -> x.ways(2, 82, 9));
    for (String sign : new String[] {"A", "0", "\u0000", "\t", "\u00e9", "`", "{"}) {
      Bench.tape(x, "a " + sign);
      Bench.wrong("ways of '" + sign + "'", () -> x.ways(0, 3, 0));
      Bench.wrong("way of '" + sign + "'", () -> x.way(0, 3, 0, 0));
      Bench.wrong("stretches of '" + sign + "'", () -> x.stretches(0, 3));
      Bench.due("ways ahead of '" + sign + "'", () -> x.ways(0, 2, 0), 1);
    }
  }

  private static void promise23() {
    NumberSpeech x = Bench.by(30, HEARING, "");
    int n = Bench.tape(x, "a b  b c a");
    Bench.dueRow("way 0", w -> x.way(0, n, 0, w), 4, 2);
    Bench.dueRow("way 1", w -> x.way(0, n, 1, w), 5, 2);
    Bench.dueRow("way 2", w -> x.way(0, n, 2, w), 1, 1);
    Bench.missing("way 3", () -> x.way(0, n, 3, 9));
    Bench.missing("way -1", () -> x.way(0, n, -1, 0));
    Bench.missing("way of no language", () -> x.way(2, 0, 0, 0));
    Bench.missing("way in the empty language", () -> x.way(1, n, 0, 0));
    Bench.wrong("way of no bytes, ahead of no stretch", () -> x.way(0, 0, 3, 0));
    Bench.wrong("way above", () -> x.way(0, 21, 0, 0));
    Bench.tape(x, " ");
    Bench.missing("way without words", () -> x.way(0, 1, 0, 0));
    int first = Bench.tape(x, "b");
    Bench.dueRow("the least number", w -> x.way(0, first, 0, w), 2, 1);
    Bench.tape(x, "a ".repeat(41));
    Bench.wrong("way of 41 words", () -> x.way(0, 82, 0, 0));
    Bench.dueRow("way 39", w -> x.way(0, 80, 39, w), 1, 1);
    NumberSpeech y = Bench.by(30, "say 1 as a;say 2 as a a;say 3 as a a a;say 4 as a a a a;", "");
    Bench.tape(y, "a a a a a a");
    Bench.dueRow("the longer first", w -> y.way(0, 11, 0, w), 4, 4);
    Bench.dueRow("then the rest", w -> y.way(0, 11, 1, w), 2, 2);
  }

  private static void promise24() {
    NumberSpeech x = Bench.by(30, HEARING, "");
    int n = Bench.tape(x, "a b c x b");
    Bench.due("stretches: a, ab, abc, b, bc, c, b", () -> x.stretches(0, n), 7);
    Bench.due("stretches of a part", () -> x.stretches(0, 3), 3);
    Bench.due("stretches in the empty language", () -> x.stretches(1, n), 0);
    Bench.tape(x, "   ");
    Bench.due("stretches without words", () -> x.stretches(0, 3), 0);
    Bench.tape(x, "a ".repeat(41));
    Bench.due("stretches of 40 words", () -> x.stretches(0, 80), 40);
    Bench.wrong("stretches of 41 words", () -> x.stretches(0, 82));
    Bench.wrong("stretches of no bytes", () -> x.stretches(0, 0));
    Bench.wrong("stretches above", () -> x.stretches(0, 101));
    Bench.missing("stretches of no language", () -> x.stretches(-1, 0));
    Bench.due("the tape stays", () -> x.told(1), 100);
  }

  private static void promise25() {
    NumberSpeech x = Bench.by(10, "say 1 to 3 as a;say 4 as b;say 5 as c;", "say 1 as a;say 2 as b;say 3 as x;say 999999999 as c;say 7 as -6;");
    Bench.due("heard 1 in 0", () -> x.heard(0, 1), 3);
    Bench.due("heard 2 in 0", () -> x.heard(0, 2), 1);
    Bench.due("heard 3 in 0", () -> x.heard(0, 3), 0);
    Bench.due("heard 4 in 0", () -> x.heard(0, 4), -1);
    Bench.due("heard 1 in 1", () -> x.heard(1, 1), 2);
    Bench.due("heard 5 in 1: said so above the limit alone", () -> x.heard(1, 5), 0);
    Bench.due("heard the highest in 0", () -> x.heard(0, 999999999), 1);
    Bench.due("heard one below", () -> x.heard(0, -1), -1);
    Bench.due("heard one above", () -> x.heard(1, Integer.MAX_VALUE), -1);
    Bench.missing("heard in no language", () -> x.heard(2, 1));
    Bench.missing("heard in no language", () -> x.heard(-1, 1));
  }

  private static void promise26() {
    NumberSpeech x = Bench.by(10, "say 0 as %1;say 1 to 5 as a;say 11 as b;say 7 as c d;say 8 as ab;", "say 0 as %1;say 4 to 6 as a;say 11 as b;say 7 as c~d;say 8 as a;");
    Bench.due("same", () -> x.same(), 3);
    x.limit(11);
    Bench.due("same", () -> x.same(), 4);
    x.limit(3);
    Bench.due("same", () -> x.same(), 1);
    Bench.due("same of a new object", () -> new NumberSpeech().same(), 0);
  }

  private static void promise27() {
    NumberSpeech x = Bench.by(20, "say 1 as b;say 2 as a b;say 3 as ab;say 4 as a;say 5 as b a;say 6 as -2;say 8 as a c;say 9 as %1;say 12 as z;say 22 as y;", "");
    int[] due = {9, 4, 6, 2, 8, 3, 1, 5, 12, -1, -1};
    for (int k = 0; k < due.length; k++) {
      int at = k;
      Bench.due("order " + k, () -> x.order(0, at), due[k]);
    }
    Bench.due("order -1", () -> x.order(0, -1), -1);
    Bench.due("order of the highest", () -> x.order(0, Integer.MAX_VALUE), -1);
    Bench.due("order of the lowest", () -> x.order(0, Integer.MIN_VALUE), -1);
    Bench.due("order of none", () -> x.order(1, 0), -1);
    x.limit(30);
    Bench.due("order to another limit", () -> x.order(0, 8), 22);
    x.drop(0, 8);
    Bench.due("order of other rules", () -> x.order(0, 8), 22);
    Bench.due("order of other rules", () -> x.order(0, 9), -1);
    x.undo();
    Bench.due("order of rules taken back", () -> x.order(0, 9), 12);
    x.limit(1000);
    Bench.text(x, "language 1;say 0 to 1000 as a;");
    Bench.due("order of alike ones", () -> x.order(1, 1000), 1000);
    Bench.due("no more", () -> x.order(1, 1001), -1);
    Bench.missing("order of no language", () -> x.order(2, 0));
    Bench.text(x, "language 1;say 0 to 10 every 2 0 as abcdefgh ijkl;say 1 as ab;");
    x.limit(2);
    Bench.due("order", () -> x.order(1, 0), 1);
    Bench.text(x, "language 1;say 0 as ab~c;say 1 as ab;say 2 as a;");
    Bench.due("order of shorter ones", () -> x.order(1, 0), 2);
    Bench.due("order of shorter ones", () -> x.order(1, 1), 1);
    Bench.due("order of shorter ones", () -> x.order(1, 2), 0);
  }

  private static void promise28() {
    NumberSpeech x = Bench.by(20, "say 3 as ab c;say 2 as abc;say 5 to 7 as a b c;say 9 as x y;say 11 as z z;say 30 as abcdefgh;", "");
    Bench.dueRow("longest", w -> x.longest(0, w), 5, 2);
    x.limit(4);
    Bench.dueRow("longest", w -> x.longest(0, w), 3, 2);
    x.limit(1);
    Bench.dueRow("longest, all silent", w -> x.longest(0, w), -1, -1);
    Bench.text(x, "language 1;say 0 to 1 as %1;");
    Bench.dueRow("longest of nothing", w -> x.longest(1, w), 0, 0);
    Bench.text(x, "language 1;say 0 as a b;say 20 as a;say 19 as a b c;");
    x.limit(19);
    Bench.dueRow("longest, the last one", w -> x.longest(1, w), 19, 0);
    x.limit(20);
    Bench.dueRow("longest, fewest by the last one", w -> x.longest(1, w), 19, 20);
    Bench.missing("longest of no language", () -> x.longest(2, 9));
  }

  private static void promise29() {
    NumberSpeech x = Bench.by(20, "say 999 as abc de;say 5 as a b c;say 3 as wxyz;say 4 as gold;say 6 as x y;say 2 as ab c;say 7 to 8 as h;", "");
    Bench.dueRow("chain 999: 5, 3, 4, 4", w -> x.chain(0, 999, w), 4, 4, 4);
    Bench.dueRow("chain 6: 2, 3, 4, 4", w -> x.chain(0, 6, w), 4, 4, 4);
    Bench.dueRow("chain 7: 1 is silent", w -> x.chain(0, 7, w), 1, 7, -1);
    Bench.dueRow("chain of a silent one", w -> x.chain(0, 0, w), 0, -1, -1);
    Bench.dueRow("chain of one below", w -> x.chain(0, -3, w), 0, -1, -1);
    Bench.dueRow("chain of one above", w -> x.chain(0, Integer.MAX_VALUE, w), 0, -1, -1);
    NumberSpeech y = Bench.by(20, "say 1 as ab;say 2 as abc;say 3 as a;say 9 as abc;say 0 as %1;say 8 as %1;", "");
    Bench.dueRow("chain 9: 3, 1, 2, 3", w -> y.chain(0, 9, w), 4, 2, 3);
    Bench.dueRow("chain 0", w -> y.chain(0, 0, w), 1, 0, 0);
    Bench.dueRow("chain 8: 0, 0", w -> y.chain(0, 8, w), 2, 0, 0);
    NumberSpeech z = Bench.by(20, "say 0 as %1;say 1 to 20 as -1~a;say 21 to 29 as -1~b;say 1000 to 999999999 as #20~abc;", "");
    Bench.dueRow("chain of its own", w -> z.chain(0, 20, w), 1, 20, 20);
    Bench.dueRow("chain of the highest", w -> z.chain(0, 999999999, w), 2, 22, 22);
    Bench.missing("chain of no language", () -> x.chain(2, 5, 9));
    longestChain();
  }

  /** Of 1000 it has 0, of each n below 100 n + 1, of 100 20 letters: the chain goes through all of them. */
  private static void longestChain() {
    NumberSpeech x = Bench.by(20, "say 1000 to 1001 as %1;say 0 as a;say 100 as -81;say 1 to 9 as -1~b;say 10 to 99 as -10~cccccccc~dd;", "");
    for (int n = 0; n < 100; n++) {
      int letters = n;
      Bench.due("letters of " + n, () -> x.said(0, letters, 2), n + 1);
    }
    Bench.dueRow("the longest chain", w -> x.chain(0, 1000, w), 102, 100, 20);
    Bench.dueRow("one less", w -> x.chain(0, 0, w), 101, 100, 20);
    x.drop(0, 2);
    Bench.dueRow("the longest chain into silence", w -> x.chain(0, 1000, w), 101, 99, -1);
  }

  private static void promise30() {
    NumberSpeech x = Bench.by(20, "say 0 as %1;say 4 as a b c d;say 5 as abcde;say 3 as ab c d;say 6 as a b c;say 30 as a;say 1 as abc~abc;say 20 as a;", "");
    Bench.due("fixed", () -> x.fixed(0), 3);
    Bench.due("fixed of none", () -> x.fixed(1), 0);
    x.limit(4);
    Bench.due("fixed to the limit", () -> x.fixed(0), 2);
    x.limit(3);
    Bench.due("fixed to the limit", () -> x.fixed(0), 1);
    Bench.missing("fixed of no language", () -> x.fixed(2));
  }

  private static void promise31() {
    NumberSpeech x = Bench.by(20, "say 1 to 3 as ba ba~c;say 4 as ab ba;say 5 to 7 as ab;say 0 as %1;say 30 as z z z z;say 9 as bac;", "");
    Bench.dueRow("words: ba 4, bac 4, ab 4", w -> x.words(0, w), 3, 4, 2);
    x.limit(8);
    Bench.dueRow("words: ba 4, bac 3, ab 4", w -> x.words(0, w), 3, 4, 2);
    x.limit(3);
    Bench.dueRow("words: ba 3, bac 3", w -> x.words(0, w), 2, 3, 2);
    Bench.text(x, "language 1;say 0 to 1 as bac;say 2 to 3 as ba b~ac;");
    Bench.dueRow("words: bac 4, ba 2", w -> x.words(1, w), 2, 4, 3);
    Bench.text(x, "language 1;say 0 as %1;");
    Bench.dueRow("words of nothing", w -> x.words(1, w), 0, 0, 0);
    Bench.text(x, "language 1;");
    Bench.dueRow("words, all silent", w -> x.words(1, w), 0, 0, 0);
    x.limit(1000);
    Bench.text(x, "language 1;say 0 as z;say 1 to 9 as b~-1;say 10 to 1000 as /10~c~#10;");
    Bench.dueRow("words, all unlike", w -> x.words(1, w), 1001, 1, 10);
    Bench.missing("words of no language", () -> x.words(2, 9));
    wordsOfTheFirstPlace();
  }

  /** These words, counted in a table by their letters, would all fall on its first place. */
  private static void wordsOfTheFirstPlace() {
    NumberSpeech x = Bench.by(10, "say 0 as ccc;say 1 to 2 as eifa ccc;say 5 as flic;", "say 0 to 9 as gole ccc;");
    Bench.dueRow("words: ccc 3, eifa 2, flic", w -> x.words(0, w), 3, 3, 3);
    Bench.dueRow("words: ccc 10, gole 10", w -> x.words(1, w), 2, 10, 3);
    Bench.text(x, "language 0;");
    Bench.dueRow("words, all silent", w -> x.words(0, w), 0, 0, 0);
  }

  private static void promise32() {
    NumberSpeech x = Bench.by(20, "say 0 to 5 as a;say 3 to 8 as a;say 7 to 8 as a;say 30 as b;say 4 as c;say 9 as -25;say 10 as +20;", "");
    Bench.due("needless: 7 to 8, 4 and 9, that stays silent", () -> x.needless(0), 0b110100);
    x.limit(9);
    Bench.due("needless: to 9", () -> x.needless(0), 0b1111100);
    x.limit(5);
    Bench.due("needless: to 5", () -> x.needless(0), 0b1111110);
    Bench.due("needless of none", () -> x.needless(1), 0);
    Bench.due("nothing goes", () -> x.told(3), 7);
    Bench.missing("needless of no language", () -> x.needless(2));
    NumberSpeech y = Bench.by(20, "say 1 as x;say 1 as x;say 2 as y;say 2 as z;say 1 as w;", "");
    Bench.due("needless: each of two alike", () -> y.needless(0), 0b11011);
    NumberSpeech z = Bench.by(20, "say 0 as a;say 20 as b;say 21 as c;", "");
    Bench.due("needless: from 0 to the limit", () -> z.needless(0), 0b100);
  }

  private static void promise33() {
    NumberSpeech x = Bench.by(3, "say 0 as %1;say 1 as a b;say 3 as c;", "");
    Bench.due("print", () -> x.print(0), (31L * (97 + 32 + 98) + 1) * 31 + 99);
    Bench.due("print of silence", () -> x.print(1), 31L * 31 * 31 + 31 * 31 + 31 + 1);
    x.limit(1);
    Bench.due("print", () -> x.print(0), 227);
    Bench.missing("print of no language", () -> x.print(2));
  }

  public static void main(String[] args) {
    promise19();
    promise20();
    promise21();
    promise22();
    promise23();
    promise24();
    promise25();
    promise26();
    promise27();
    promise28();
    promise29();
    promise30();
    promise31();
    promise32();
    promise33();
    Bench.end("PromisesOfAll");
  }
}
