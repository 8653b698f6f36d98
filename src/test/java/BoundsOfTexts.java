/** Sentences that name a boundary case, of a new object, the tape, texts and refusals: each has a test of its own. */
public final class BoundsOfTexts {
  private static final String HEAD = "language 0;";

  /** n rules of eleven bytes each, one FROM behind the other. */
  private static String rules(int n, int language) {
    StringBuilder text = new StringBuilder("language " + language + ";");
    for (int i = 0; i < n; i++) text.append("say").append(100 + i).append("as/9;");
    return text.toString();
  }

  private static NumberSpeech taken(String text, int rules) {
    NumberSpeech x = new NumberSpeech();
    Bench.due("text \"" + text + "\"", () -> Bench.text(x, text), rules);
    Bench.due("fault of \"" + text + "\"", () -> x.fault(), -1);
    return x;
  }

  // ---- what it is ----

  private static void object() {
    Sentences.holds("What it is", "An object is used for at most 512 calls after it has been made", () -> {
      NumberSpeech x = new NumberSpeech();
      Bench.text(x, "language 0;say 5 as a;");
      for (int call = 4; call <= 510; call++) {
        int limit = call % 900 + 1;
        Bench.due("call " + call, () -> limit % 3 == 0 ? (x.undo() >= 0 ? 1 : 0) : (x.limit(limit) >= 1 ? 1 : 0), 1);
      }
      Bench.due("call 511", () -> x.said(0, 5, 0), 1);
      Bench.due("call 512", () -> x.told(2), 12);
      NumberSpeech full = new NumberSpeech();
      String text = rules(30, 1);
      for (int i = 0; i < 26; i++) Bench.due("thirty rules", () -> Bench.text(full, text), 30);
      for (int call = 26 * 19 + 1; call <= 511; call++) Bench.due("the dearest", () -> full.needless(1), 0x3fffffff);
      Bench.due("call 512", () -> full.told(4), 30);
      NumberSpeech refused = new NumberSpeech();
      for (int call = 1; call <= 511; call++) Bench.wrong("call " + call, () -> refused.limit(0));
      Bench.due("call 512", () -> refused.status(1), 511);
      NumberSpeech missing = new NumberSpeech();
      for (int call = 1; call <= 511; call++) {
        boolean odd = call % 2 == 1;
        Bench.missing("call " + call, () -> odd ? missing.drop(0, 0) : missing.fixed(2));
      }
      Bench.due("call 512", () -> missing.status(0), 511);
    });
  }

  /** The first bytes of a longer tape are taken as if there were no more. */
  private static void dueCut(String tape, int length, int answer, int place) {
    NumberSpeech x = new NumberSpeech();
    Bench.bring(x, tape);
    Bench.due("the first " + length + " of \"" + tape + "\"", () -> x.text(length), answer);
    Bench.due("the fault of the first " + length + " of \"" + tape + "\"", () -> x.fault(), place);
  }

  // ---- the terms: what a rule can be ----

  private static void rulesAndItems() {
    Sentences.holds("Terms", "LANGUAGES 0 and 1, each with up to 30 RULES, numbered from 0 on in order", () -> {
      NumberSpeech x = new NumberSpeech();
      for (int language = 0; language < 2; language++) {
        int l = language;
        Bench.due("thirty rules", () -> Bench.text(x, rules(30, l)), 30);
        Bench.due("the first", () -> x.rule(l, 0, 0), 100);
        Bench.due("the second", () -> x.rule(l, 1, 0), 101);
        Bench.due("the last", () -> x.rule(l, 29, 0), 129);
        Bench.missing("one behind it", () -> x.rule(l, 30, 0));
      }
      Bench.dueFault(rules(31, 0), 3, 341);
      Bench.dueFault(rules(31, 1), 3, 341);
      Bench.dueFault("language 2;", 2, 9);
    });
    Sentences.holds("Terms", "FROM, TO (0 to 999,999,999, FROM not above TO)", () -> {
      NumberSpeech x = taken(HEAD + "say 0 as a;say 999999999 as b;say 0 to 999999999 as c;say 7 to 7 as d;say 0 to 0 as e;", 5);
      int[][] due = {{0, 0}, {999999999, 999999999}, {0, 999999999}, {7, 7}, {0, 0}};
      for (int rule = 0; rule < due.length; rule++) {
        int r = rule;
        Bench.due("from " + r, () -> x.rule(0, r, 0), due[r][0]);
        Bench.due("to " + r, () -> x.rule(0, r, 1), due[r][1]);
      }
      Bench.dueFault(HEAD + "say 1000000000 as a;", 2, 15);
      Bench.dueFault(HEAD + "say 5 to 1000000000 as a;", 2, 20);
      Bench.dueFault(HEAD + "say 7 to 6 as a;", 2, 20);
      Bench.dueFault(HEAD + "say 1 to 0 as a;", 2, 20);
      Bench.dueFault(HEAD + "say 999999999 to 999999998 as a;", 2, 28);
    });
    Sentences.holds("Terms", "D, R (D 1 to 9,999, R 0 to D less 1; 1 and 0 without)", () -> {
      NumberSpeech x = taken(HEAD + "say 5 every 1 0 as a;say 5 every 9999 0 as b;say 5 every 9999 9998 as c;say 5 every 2 1 as d;say 5 as e;", 5);
      int[][] due = {{1, 0}, {9999, 0}, {9999, 9998}, {2, 1}, {1, 0}};
      for (int rule = 0; rule < due.length; rule++) {
        int r = rule;
        Bench.due("d " + r, () -> x.rule(0, r, 2), due[r][0]);
        Bench.due("r " + r, () -> x.rule(0, r, 3), due[r][1]);
      }
      Bench.dueFault(HEAD + "say 5 every 0 0 as a;", 2, 23);
      Bench.dueFault(HEAD + "say 5 every 10000 0 as a;", 2, 23);
      Bench.dueFault(HEAD + "say 5 every 1 1 as a;", 2, 25);
      Bench.dueFault(HEAD + "say 5 every 2 2 as a;", 2, 25);
      Bench.dueFault(HEAD + "say 5 every 9999 9999 as a;", 2, 28);
    });
    Sentences.holds("Terms", "1 to 6 ITEMS", () -> {
      NumberSpeech x = taken(HEAD + "say 5 as a;say 6 as a /2 %3 #4 -5 +6;say 7 as a~b~c d;", 3);
      Bench.due("one item", () -> x.rule(0, 0, 4), 1);
      Bench.due("six items", () -> x.rule(0, 1, 4), 6);
      Bench.due("six items, glue among them", () -> x.rule(0, 2, 4), 6);
      Bench.dueFault(HEAD + "say 5 as;", 1, 19);
      Bench.dueFault(HEAD + "say 5 as a /2 %3 #4 -5 +6 b;", 3, 37);
      Bench.dueFault(HEAD + "say 5 as a~b~c~d;", 3, 26);
    });
    Sentences.holds("Terms", "a WORD: 1 to 8 small letters", () -> {
      NumberSpeech x = taken(HEAD + "say 5 as a;say 6 as abcdefgh;say 7 as zyxwvuts;say 8 as z;", 4);
      Bench.due("one letter", () -> x.item(0, 0, 0, 1), 1);
      Bench.due("eight letters", () -> x.item(0, 1, 0, 1), 8);
      Bench.dueSaid(x, 0, 6, "abcdefgh");
      Bench.dueSaid(x, 0, 7, "zyxwvuts");
      Bench.dueSaid(x, 0, 8, "z");
      Bench.dueFault(HEAD + "say 5 as abcdefghi;", 1, 20);
      for (String sign : new String[] {"A", "Z", "`", "{", "@", "\u00e9", "\u0000", "_"}) Bench.dueFault(HEAD + "say 5 as " + sign + ";", 1, 20);
    });
    Sentences.holds("Terms", "K (1 to 999,999)", () -> {
      String signs = "/%#-+";
      for (int sign = 0; sign < signs.length(); sign++) {
        int kind = sign + 1;
        String item = signs.substring(sign, sign + 1);
        NumberSpeech x = taken(HEAD + "say 5 as " + item + "1 " + item + "999999;", 1);
        Bench.due("kind of " + item, () -> x.item(0, 0, 0, 0), kind);
        Bench.due("least of " + item, () -> x.item(0, 0, 0, 1), 1);
        Bench.due("most of " + item, () -> x.item(0, 0, 1, 1), 999999);
        Bench.dueFault(HEAD + "say 5 as " + item + "0;", 2, 21);
        Bench.dueFault(HEAD + "say 5 as " + item + "1000000;", 2, 21);
      }
    });
  }

  // ---- the terms: the text ----

  private static void grammar() {
    Sentences.holds("Terms", "TO: FROM without", () -> {
      NumberSpeech x = taken(HEAD + "say 5 to 9 as a;say 6 as a;say 7 every 3 1 as a;", 3);
      Bench.due("with", () -> x.rule(0, 0, 1), 9);
      Bench.due("without", () -> x.rule(0, 1, 1), 6);
      Bench.due("without, d there", () -> x.rule(0, 2, 1), 7);
    });
    Sentences.holds("Terms", "small letters, as many as stand there", () -> {
      taken("language0;say5to6every2 1as as;say7as a/1;", 2);
      Bench.dueFault("languages 0;", 1, 0);
      Bench.dueFault(HEAD + "say 5 asa b;", 1, 17);
      Bench.dueFault(HEAD + "say 5 toto 6 as b;", 1, 17);
      Bench.dueFault(HEAD + "sayas 5 as b;", 1, 11);
      Bench.dueFault("lan guage 0;", 1, 0);
    });
    Sentences.holds("Terms", "digits, as many as stand there", () -> {
      NumberSpeech x = taken("language 0000;say 00000000000000000000000000000000123 to 000000999999999 as /0000999999 +01-1;", 1);
      Bench.due("from", () -> x.rule(0, 0, 0), 123);
      Bench.due("to", () -> x.rule(0, 0, 1), 999999999);
      Bench.due("k", () -> x.item(0, 0, 0, 1), 999999);
      Bench.dueFault(HEAD + "say 1 0 as a;", 1, 17);
      Bench.dueFault(HEAD + "say 1: as a;", 1, 16);
      Bench.dueFault(HEAD + "say 1/ as a;", 1, 16);
      Bench.dueFault("language 01;say 5 as a; 0", 1, 24);
      Bench.dueFault(HEAD + "say " + "9".repeat(380), 2, 15);
      Bench.dueFault(HEAD + "say 4294967296 as a;", 2, 15);
      Bench.dueFault(HEAD + "say 18446744073709551616 as a;", 2, 15);
      taken(HEAD + "say " + "0".repeat(375) + "9 as a;", 1);
    });
    Sentences.holds("Terms", "blanks (32) may stand ahead of all these and of signs, and at the end", () -> {
      taken("  language   0  ;  say  5  to  6  every  2  1  as  a  ~  b  /  3  ;   ", 1);
      taken("language0;say5to6every2 1as a~b/3;", 1);
      taken("language 0;    ", 0);
      taken(HEAD + " ".repeat(389), 0);
      for (String sign : new String[] {"\t", "\n", "\r", "\u0000", "\u00a0", "\u001f", "!"}) {
        Bench.dueFault(sign + "language 0;", 1, 0);
        Bench.dueFault("language" + sign + "0;", 1, 8);
        Bench.dueFault("language 0;" + sign, 1, 11);
        Bench.dueFault(HEAD + "say 5 as a" + sign + ";", 1, 21);
      }
    });
    Sentences.holds("Terms", "An ITEM may be a WORD like \"to\", \"as\"", () -> {
      NumberSpeech x = taken(HEAD + "say 5 as to as say;say 6 as as;say 7 to 8 as every language to;", 3);
      Bench.dueSaid(x, 0, 5, "to as say");
      Bench.dueSaid(x, 0, 6, "as");
      Bench.dueSaid(x, 0, 8, "every language to");
    });
  }

  // ---- the terms: faults ----

  private static void faults() {
    Sentences.holds("Terms", "FAULTS, the first from the left, at its first byte", () -> {
      Bench.dueFault(HEAD + "say 5 to 4 as ~a;", 2, 20);
      Bench.dueFault(HEAD + "say 5 as ~/0;", 4, 20);
      Bench.dueFault(HEAD + "say 5 as /0 ~;", 2, 21);
      Bench.dueFault(HEAD + "say 5 as abcdefghi /0;", 1, 20);
      Bench.dueFault(HEAD + "say 5 as a b c d e /0 f;", 2, 31);
      Bench.dueFault("language 2 say", 2, 9);
      Bench.dueFault("  langage 7;", 1, 2);
      Bench.dueFault(HEAD + "say 5 every 0 9 as a;", 2, 23);
      Bench.dueFault(HEAD + "say    1000000000 as a;", 2, 18);
      Bench.dueFault(HEAD + "say 5 as a ~  ;", 4, 22);
    });
    Sentences.holds("Terms", "at the length, if the text ends too early", () -> {
      String whole = "language 0;say 5 to 9 every 2 1 as ab ~ /10;";
      for (int length : new int[] {0, 8, 9, 10, 14, 15, 16, 17, 19, 20, 21, 22, 27, 28, 29, 30, 31, 32, 34, 35, 36, 37, 38, 39, 40, 41, 42, 43}) {
        Bench.dueFault(whole.substring(0, length), 1, length);
      }
      taken(whole, 1);
      taken(whole.substring(0, 11), 0);
      Bench.dueFault("", 1, 0);
      Bench.dueFault("     ", 1, 5);
      Bench.dueFault(HEAD + "say 5 as a   ", 1, 24);
      Bench.dueFault(HEAD + "say 5 as a~  ", 1, 24);
      Bench.dueFault(HEAD + "say 5 as a b c d e f", 1, 31);
      NumberSpeech x = new NumberSpeech();
      Bench.bring(x, "language 0;say 5 as a;");
      Bench.due("the length is the text's, not the tape's", () -> x.text(19), -9);
      Bench.due("the length", () -> x.fault(), 19);
      int[] places = {0, 0, 0, 0, 0, 0, 0, 0, 8, 9, 10, -1, 11, 11, 14, 15, 16, 17, 17, 19, 20, 21, 22, 22, 22, 22, 22, 27, 28, 29, 30, 31, 32, 32, 34, 35,
        36, 37, 38, 39, 40, 41, 42, 43, -1};
      for (int length = 0; length < places.length; length++) dueCut(whole, length, places[length] < 0 ? length / 40 : -9, places[length]);
      String blanks = "   language   0   ;   say   5   as   a   ~   b   /   1   ;   ";
      for (int length : new int[] {1, 2, 3, 11, 12, 13, 14, 15, 16, 17, 18, 26, 27, 28, 29, 30, 31, 32}) dueCut(blanks, length, -9, length);
      for (int length : new int[] {34, 35, 36, 37, 39, 41, 44, 46, 48, 50, 52, 54, 55, 56}) dueCut(blanks, length, -9, length);
      for (int length : new int[] {19, 20, 21, 22, 58}) dueCut(blanks, length, length / 58, -1);
      dueCut(HEAD + "say 5 as abcdefghi;", 28, -9, 28);
      dueCut(HEAD + "say 5 as abcdefghi;", 29, -9, 20);
      dueCut(HEAD + "say 5 as /1000000;", 27, -9, 27);
      dueCut(HEAD + "say 5 as /1000000;", 28, -8, 21);
    });
    Sentences.holds("Terms", "no ITEM;", () -> {
      Bench.dueFault(HEAD + "say 5 as;", 1, 19);
      Bench.dueFault(HEAD + "say 5 as  ;", 1, 21);
      Bench.dueFault(HEAD + "say 5 as a;say 6 as ;", 1, 31);
    });
    Sentences.holds("Terms", "a WORD of more than 8 letters)", () -> {
      Bench.dueFault(HEAD + "say 5 as abcdefghi;", 1, 20);
      Bench.dueFault(HEAD + "say 5 as a~ abcdefghi;", 1, 23);
      Bench.dueFault(HEAD + "say 5 as a b c d e abcdefghi;", 1, 30);
      Bench.dueFault(HEAD + "say 5 as " + "a".repeat(380), 1, 20);
    });
    Sentences.holds("Terms", "2 a number that is none such", () -> {
      Bench.dueFault("language 2;", 2, 9);
      Bench.dueFault("language 0;say 1000000000 as a;", 2, 15);
      Bench.dueFault(HEAD + "say 5 to 4 as a;", 2, 20);
      Bench.dueFault(HEAD + "say 5 every 10000 1 as a;", 2, 23);
      Bench.dueFault(HEAD + "say 5 every 3 3 as a;", 2, 25);
      Bench.dueFault(HEAD + "say 5 as a % 0;", 2, 24);
    });
    Sentences.holds("Terms", "3 a seventh ITEM (ahead of 4, and of a long WORD's 1)", () -> {
      String six = HEAD + "say 5 as a b c d e f ";
      Bench.dueFault(six + "g;", 3, 32);
      Bench.dueFault(six + "~;", 3, 32);
      Bench.dueFault(six + "abcdefghi;", 3, 32);
      Bench.dueFault(six + "/0;", 3, 32);
      Bench.dueFault(six + "#", 3, 32);
      Bench.dueFault(six + "?", 1, 32);
      Bench.dueFault(six + "7", 1, 32);
      Bench.dueFault(HEAD + "say 5 as a b c d e ~ f;", 3, 32);
      Bench.dueFault(HEAD + "say 5 as a b c d e ~ ~;", 3, 32);
      Bench.dueFault(HEAD + "say 5 as a b c d e ~ abcdefghi;", 3, 32);
      taken(six + ";", 1);
    });
    Sentences.holds("Terms", "a 31st RULE (at its say)", () -> {
      Bench.dueFault(rules(30, 0) + " say", 3, 342);
      Bench.dueFault(rules(30, 1) + "say 5 to 4 as ;", 3, 341);
      Bench.dueFault(rules(30, 0) + "sa", 1, 341);
      Bench.dueFault(rules(30, 0) + ";", 1, 341);
      taken(rules(30, 0) + "  ", 30);
    });
    Sentences.holds("Terms", "4 glue that is the first ITEM", () -> {
      Bench.dueFault(HEAD + "say 5 as ~a;", 4, 20);
      Bench.dueFault(HEAD + "say 5 as  ~ ;", 4, 21);
      Bench.dueFault(HEAD + "say 5 as ~~a;", 4, 20);
      Bench.dueFault(HEAD + "say 5 as ~", 4, 20);
    });
    Sentences.holds("Terms", "the last one where ; follows (at it; else 1 at what follows)", () -> {
      Bench.dueFault(HEAD + "say 5 as a~;", 4, 21);
      Bench.dueFault(HEAD + "say 5 as a b ~  ;", 4, 24);
      Bench.dueFault(HEAD + "say 5 as a b c d e~;", 4, 29);
      Bench.dueFault(HEAD + "say 5 as a ~ 7;", 1, 24);
      Bench.dueFault(HEAD + "say 5 as a ~", 1, 23);
      Bench.dueFault(HEAD + "say 5 as a ~ !;", 1, 24);
      Bench.dueFault(HEAD + "say 5 as a b c d e~!", 1, 30);
    });
    Sentences.holds("Terms", "or right behind another one", () -> {
      Bench.dueFault(HEAD + "say 5 as a~~b;", 4, 22);
      Bench.dueFault(HEAD + "say 5 as a ~  ~ b;", 4, 25);
      Bench.dueFault(HEAD + "say 5 as a~~;", 4, 22);
      taken(HEAD + "say 5 as a~b~c;", 1);
      taken(HEAD + "say 5 as a~%1~c;", 1);
    });
  }

  // ---- promises 1 and 2 ----

  private static void newObject() {
    Sentences.holds("Promise 1", "Two LANGUAGES without RULES, LIMIT 100.", () -> {
      NumberSpeech x = new NumberSpeech();
      Bench.dueRow("told", w -> x.told(w), 100, 0, 0, 0, 0);
      Bench.due("fault", () -> x.fault(), -1);
      Bench.due("undo", () -> x.undo(), -1);
      Bench.due("same", () -> x.same(), 0);
      for (int language = 0; language < 2; language++) {
        int l = language;
        Bench.missing("rule", () -> x.rule(l, 0, 0));
        Bench.missing("item", () -> x.item(l, 0, 0, 0));
        Bench.missing("drop", () -> x.drop(l, 0));
        Bench.missing("rise", () -> x.rise(l, 0));
        Bench.due("fits", () -> x.fits(l, 0), -1);
        Bench.dueRow("said", w -> x.said(l, 0, w), -1, -1, -1);
        Bench.due("causes", () -> x.causes(l, 5), 1);
        Bench.dueRow("cause", w -> x.cause(l, 5, 0, w), 5, 1, -1, -1);
        Bench.dueRow("silent", w -> x.silent(l, w), 101, 0, 1, 101, 0);
        Bench.dueRow("alike", w -> x.alike(l, w), 0, -1, -1, 0);
        Bench.dueRow("read", w -> x.read(l, 0, w), 0, -1, -1);
        Bench.due("heard", () -> x.heard(l, 0), -1);
        Bench.due("order", () -> x.order(l, 0), -1);
        Bench.dueRow("longest", w -> x.longest(l, w), -1, -1);
        Bench.dueRow("chain", w -> x.chain(l, 0, w), 0, -1, -1);
        Bench.due("fixed", () -> x.fixed(l), 0);
        Bench.dueRow("words", w -> x.words(l, w), 0, 0, 0);
        Bench.due("needless", () -> x.needless(l), 0);
      }
      NumberSpeech y = Bench.by("say 0 to 1000 as a;");
      Bench.due("all are 0 to 100", () -> y.rule(0, 0, 5), 101);
      Bench.due("another new object", () -> new NumberSpeech().told(3), 0);
    });
  }

  private static void tape() {
    Sentences.holds("Terms", "The TAPE has up to 400 bytes.", () -> {
      NumberSpeech x = new NumberSpeech();
      String text = HEAD + "say 5 as abc;" + " ".repeat(376);
      Bench.due("bytes", () -> Bench.bring(x, text), 400);
      Bench.due("on the tape", () -> x.told(1), 400);
      Bench.due("a text of 400 bytes", () -> x.text(400), 1);
      Bench.dueSaid(x, 0, 5, "abc");
      Bench.bring(x, HEAD + " ".repeat(388) + "?");
      Bench.due("the last byte counts", () -> x.text(400), -9);
      Bench.due("its place", () -> x.fault(), 399);
    });
    Sentences.holds("Promise 2", "Twenty bytes come on the TAPE, of each number the highest first: how many there are", () -> {
      NumberSpeech x = new NumberSpeech();
      Bench.due("feed", () -> x.feed(0x6c616e67, 0x75616765, 0x20303b73, 0x61792035, 0x20617320), 20);
      Bench.due("feed", () -> x.feed(0x6162637e, 0x6465663b, -1, 0x80ff7f00, Integer.MIN_VALUE), 40);
      Bench.due("text", () -> x.text(28), 1);
      Bench.dueSaid(x, 0, 5, "abcdef");
      int[] bytes = {0x20202020, 0x20202020, 0x20202020, 0x20202020, 0x20202020};
      for (int place = 0; place < 20; place++) {
        int[] row = bytes.clone();
        row[place / 4] ^= (0x20 ^ (place % 2 == 0 ? 0xff : 0x80)) << (24 - place % 4 * 8);
        Bench.due("feed", () -> x.feed(row[0], row[1], row[2], row[3], row[4]), 20);
        Bench.due("a byte above 127", () -> x.text(20), -9);
        int at = place;
        Bench.due("its place", () -> x.fault(), at);
      }
      String twenty = "language0;say5 as a;";
      Bench.due("twenty bytes", () -> Bench.text(x, twenty), 1);
      for (int place = 0; place < 20; place++) {
        char[] signs = twenty.toCharArray();
        signs[place] |= 128;
        Bench.due("a letter's eighth bit counts, at " + place, () -> Bench.text(x, new String(signs)), -9);
      }
      for (int i = 1; i <= 20; i++) {
        int due = 20 * i;
        Bench.due("feed no. " + i, () -> x.feed(0, 0, 0, 0, 0), due);
      }
    });
    Sentences.holds("Promise 2", "NONE, doing nothing, if there would be more than 400.", () -> {
      NumberSpeech x = new NumberSpeech();
      Bench.bring(x, HEAD + "say 5 as abc;" + " ".repeat(356));
      Bench.due("380 bytes", () -> x.told(1), 380);
      Bench.due("to 400", () -> x.feed(0x20202020, 0x20202020, 0x20202020, 0x20202020, 0x20202020), 400);
      Bench.due("above 400", () -> x.feed(-1, -1, -1, -1, -1), -1);
      Bench.due("above 400 again", () -> x.feed(0, 0, 0, 0, 0), -1);
      Bench.due("bytes stay", () -> x.told(1), 400);
      Bench.due("not refused", () -> x.status(0) + x.status(1), 0);
      Bench.due("they are as they were", () -> x.text(400), 1);
      Bench.due("room again", () -> x.feed(0, 0, 0, 0, 0), 20);
    });
  }

  // ---- promises 3 to 5 ----

  private static void text() {
    Sentences.holds("Promise 3", "The first n bytes of the TAPE (empty then)", () -> {
      NumberSpeech x = new NumberSpeech();
      Bench.bring(x, HEAD + "say 5 as a;say 6 as b;say 7 as");
      Bench.due("a part", () -> x.text(22), 1);
      Bench.due("all the tape is empty", () -> x.told(1), 0);
      Bench.bring(x, HEAD + "say 8 as ");
      Bench.due("the whole tape", () -> x.feed(0x613b2020, 0x20202020, 0x20202020, 0x20202020, 0x20202020), 40);
      Bench.due("all that is on the tape", () -> x.text(40), 1);
      Bench.due("empty", () -> x.told(1), 0);
      Bench.bring(x, HEAD + "say 5 as a;say 6 as b;say 7 as");
      Bench.due("a part with a fault", () -> x.text(20), -9);
      Bench.due("empty behind a fault, too", () -> x.told(1), 0);
      Bench.due("a later feed begins anew", () -> Bench.text(x, HEAD + "say 9 as a;"), 1);
    });
    Sentences.holds("Promise 3", "are the RULES of their LANGUAGE, in place of those there are: how many", () -> {
      NumberSpeech x = Bench.by("say 1 as a;say 2 as b;say 3 as c;", "say 4 as d;");
      Bench.due("fewer", () -> Bench.text(x, HEAD + "say 9 as e;"), 1);
      Bench.due("those there were are gone", () -> x.fits(0, 1), -1);
      Bench.missing("no second one", () -> x.rule(0, 1, 0));
      Bench.due("the other language's stay", () -> x.fits(1, 4), 0);
      Bench.due("none", () -> Bench.text(x, "language 1;"), 0);
      Bench.due("none of language 1", () -> x.told(4), 0);
      Bench.due("one of language 0", () -> x.told(3), 1);
      Bench.due("thirty", () -> Bench.text(x, rules(30, 0)), 30);
      Bench.due("thirty in place of thirty", () -> Bench.text(x, rules(30, 0)), 30);
    });
    Sentences.holds("Promise 3", "or the FAULT less 10 (all but the TAPE stays)", () -> {
      String[] texts = {HEAD + "say 5 as", "language 0;say 9 as z;say 5 as /0;", "language 1;say 9 as z;say 5 as a b c d e f g;", HEAD + "say 9 as z;say 5 as ~"};
      for (int kind = 1; kind <= 4; kind++) {
        NumberSpeech x = Bench.by("say 1 as a;say 5 as b;", "say 2 as c~d;");
        x.limit(50);
        String before = Bench.book(x);
        String text = texts[kind - 1];
        int due = kind - 10;
        Bench.due("fault " + kind, () -> Bench.text(x, text), due);
        Bench.due("all stays", Bench.book(x), before);
        Bench.due("the tape is empty", () -> x.told(1), 0);
        Bench.due("none more can be taken back", () -> x.told(2), 3);
        Bench.due("not refused", () -> x.status(0) + x.status(1), 0);
      }
    });
    Sentences.holds("Promise 3", "n is not 0 to the TAPE's bytes (it stays)", () -> {
      NumberSpeech x = new NumberSpeech();
      Bench.wrong("1 of none", () -> x.text(1));
      Bench.due("0 of none", () -> x.text(0), -9);
      Bench.bring(x, HEAD + "say 5 as a;" + " ".repeat(18));
      for (int n : new int[] {-1, 41, 400, 401, Integer.MAX_VALUE, Integer.MIN_VALUE}) Bench.wrong("text(" + n + ")", () -> x.text(n));
      Bench.due("the tape stays", () -> x.told(1), 40);
      Bench.due("all of it", () -> x.text(40), 1);
      Bench.due("refused", () -> x.status(1), 7);
      Bench.bring(x, HEAD + "         ");
      Bench.due("0 of some", () -> x.text(0), -9);
      Bench.due("the tape is empty", () -> x.told(1), 0);
    });
  }

  private static void fault() {
    Sentences.holds("Promise 4", "The place of the FAULT of the latest text(), more(); NONE without.", () -> {
      NumberSpeech x = new NumberSpeech();
      Bench.due("none yet", () -> x.fault(), -1);
      Bench.text(x, HEAD + "say 5 as ~");
      Bench.due("of text", () -> x.fault(), 20);
      Bench.more(x, "language 3");
      Bench.due("of more", () -> x.fault(), 9);
      Bench.more(x, HEAD);
      Bench.due("more without", () -> x.fault(), -1);
      x.text(0);
      Bench.due("at 0", () -> x.fault(), 0);
      Bench.text(x, HEAD);
      Bench.due("text without", () -> x.fault(), -1);
      Bench.text(x, HEAD + " ".repeat(388) + "?");
      Bench.due("the last byte of the tape", () -> x.fault(), 399);
      Bench.text(x, HEAD + "say 5" + " ".repeat(384));
      Bench.due("behind the last byte of the tape", () -> x.fault(), 400);
    });
  }

  private static void more() {
    Sentences.holds("Promise 5", "Likewise RULES more, behind those there are: how many there are then.", () -> {
      NumberSpeech x = new NumberSpeech();
      Bench.due("behind none", () -> Bench.more(x, "language 1;say 1 to 2 as a;"), 1);
      Bench.due("behind one", () -> Bench.more(x, "language 1;say 2 to 3 as b;say 4 as c;"), 3);
      Bench.dueSaid(x, 1, 2, "a");
      Bench.dueSaid(x, 1, 3, "b");
      Bench.due("the last one", () -> x.rule(1, 2, 0), 4);
      Bench.due("none more", () -> Bench.more(x, "language 1;"), 3);
      Bench.due("of the other language", () -> Bench.more(x, "language 0;say 9 as d;"), 1);
      Bench.due("those stay", () -> x.told(4), 3);
      String before = Bench.book(x);
      Bench.due("a fault", () -> Bench.more(x, "language 1;say 5 as e;say 6 as;"), -9);
      Bench.due("all stays", Bench.book(x), before);
      Bench.due("the tape is empty", () -> x.told(1), 0);
      Bench.due("four can be taken back", () -> x.told(2), 4);
      Bench.bring(x, "language 1;         ");
      for (int n : new int[] {-1, 21, 401, Integer.MAX_VALUE, Integer.MIN_VALUE}) Bench.wrong("more(" + n + ")", () -> x.more(n));
      Bench.due("the tape stays", () -> x.told(1), 20);
      Bench.due("the whole tape", () -> x.more(20), 3);
      Bench.due("no bytes", () -> x.more(0), -9);
    });
    Sentences.holds("Promise 5", "(30 in all.)", () -> {
      NumberSpeech x = new NumberSpeech();
      Bench.text(x, rules(29, 0));
      Bench.due("to thirty", () -> Bench.more(x, "language 0;say 1 as a;"), 30);
      Bench.due("none more than thirty", () -> Bench.more(x, "language 0;"), 30);
      Bench.due("one more than thirty", () -> Bench.more(x, "language 0;  say 1 as a;"), -7);
      Bench.due("at its say", () -> x.fault(), 13);
      Bench.due("thirty stay", () -> x.told(3), 30);
      Bench.due("the other language's don't count", () -> Bench.more(x, rules(30, 1)), 30);
      x.drop(0, 0);
      x.drop(0, 0);
      Bench.due("three behind 28", () -> Bench.more(x, "language 0;say 1 as a;say 2 as b;say 3 as c;"), -7);
      Bench.due("at the third's say", () -> x.fault(), 33);
      Bench.due("none of them is there", () -> x.told(3), 28);
      Bench.due("two behind 28", () -> Bench.more(x, "language 0;say 1 as a;say 2 as b;"), 30);
      Bench.due("text does not count those there are", () -> Bench.text(x, rules(30, 0)), 30);
    });
  }

  // ---- promise 34 ----

  private static void status() {
    Sentences.holds("Promise 34", "0 NoSuchElementException, 1 IllegalArgumentException; NONE for others.", () -> {
      NumberSpeech x = new NumberSpeech();
      Bench.due("status 0", () -> x.status(0), 0);
      Bench.due("status 1", () -> x.status(1), 0);
      for (int what : new int[] {-1, 2, Integer.MAX_VALUE, Integer.MIN_VALUE}) Bench.due("status " + what, () -> x.status(what), -1);
      Bench.missing("no rule", () -> x.drop(0, 0));
      Bench.due("one missing", () -> x.status(0), 1);
      Bench.due("none wrong", () -> x.status(1), 0);
      Bench.wrong("limit", () -> x.limit(0));
      Bench.due("one missing", () -> x.status(0), 1);
      Bench.due("one wrong", () -> x.status(1), 1);
      Bench.missing("both at once", () -> x.said(2, 0, 9));
      Bench.due("two missing", () -> x.status(0), 2);
      Bench.due("one wrong", () -> x.status(1), 1);
      Bench.due("no undo", () -> x.undo(), -1);
      Bench.due("a fault", () -> x.text(0), -9);
      Bench.due("silent", () -> x.said(0, 0, 0), -1);
      for (int i = 0; i < 21; i++) x.feed(0, 0, 0, 0, 0);
      Bench.due("these were not refused", () -> 10 * x.status(0) + x.status(1), 21);
      x.limit(7);
      x.undo();
      Bench.due("not taken back", () -> 10 * x.status(0) + x.status(1), 21);
      for (int i = 0; i < 100; i++) Bench.wrong("told", () -> x.told(5));
      Bench.due("all are counted", () -> x.status(1), 101);
    });
    Sentences.holds("Promise 34", "How many calls were refused", () -> {
      NumberSpeech x = Bench.by("say 1 as a;say 2 as b;");
      Bench.bring(x, "a");
      Bench.Call[] wrong = {() -> x.text(-1), () -> x.more(21), () -> x.limit(0), () -> x.rise(0, 0), () -> x.told(5), () -> x.rule(0, 0, 6),
        () -> x.item(0, 0, 0, 2), () -> x.fits(0, -1), () -> x.said(0, 1, 3), () -> x.cause(0, 5, 0, 4), () -> x.silent(0, 5), () -> x.alike(0, 4),
        () -> x.read(0, 21, 0), () -> x.read(0, 1, 3), () -> x.ways(0, 2, 0), () -> x.ways(0, 1, 3), () -> x.way(0, 2, 0, 0), () -> x.way(0, 1, 0, 2),
        () -> x.stretches(0, 0), () -> x.stretches(0, 2), () -> x.longest(0, 2), () -> x.chain(0, 1, 3), () -> x.words(0, 3)};
      for (int i = 0; i < wrong.length; i++) {
        int due = i + 1;
        Bench.wrong("wrong call " + i, wrong[i]);
        Bench.due("counted", () -> x.status(1), due);
        Bench.due("none missing", () -> x.status(0), 0);
      }
      Bench.Call[] missing = {() -> x.drop(0, 2), () -> x.rise(0, 2), () -> x.rule(0, 2, 0), () -> x.item(0, 2, 0, 0), () -> x.item(0, 0, 1, 0),
        () -> x.fits(2, 0), () -> x.said(2, 0, 0), () -> x.at(2, 0, 0), () -> x.asked(2, 0), () -> x.causes(2, 0), () -> x.cause(2, 0, 0, 0),
        () -> x.cause(0, 1, 0, 0), () -> x.silent(2, 0), () -> x.alike(2, 0), () -> x.read(2, 0, 0), () -> x.ways(2, 1, 0), () -> x.way(2, 1, 0, 0),
        () -> x.way(0, 1, 1, 0), () -> x.stretches(2, 1), () -> x.heard(2, 0), () -> x.order(2, 0), () -> x.longest(2, 0), () -> x.chain(2, 0, 0),
        () -> x.fixed(2), () -> x.words(2, 0), () -> x.needless(2), () -> x.print(2)};
      for (int i = 0; i < missing.length; i++) {
        int due = i + 1;
        Bench.missing("missing call " + i, missing[i]);
        Bench.due("counted", () -> x.status(0), due);
        Bench.due("no more wrong", () -> x.status(1), wrong.length);
      }
    });
  }

  public static void all() {
    object();
    rulesAndItems();
    grammar();
    faults();
    newObject();
    tape();
    text();
    fault();
    more();
    status();
  }

  public static void main(String[] args) {
    all();
    Bench.end("BoundsOfTexts");
  }
}
