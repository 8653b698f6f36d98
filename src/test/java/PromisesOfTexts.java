/** Promises 1 to 5 and 34: a new object, the tape, texts and their faults, refusals counted. */
public final class PromisesOfTexts {
  private static final String HEAD = "language 0;";

  private static void promise1() {
    NumberSpeech x = new NumberSpeech();
    Bench.due("limit of a new object", () -> x.told(0), 100);
    Bench.due("rules of language 0", () -> x.told(3), 0);
    Bench.due("rules of language 1", () -> x.told(4), 0);
    Bench.due("all are silent", () -> x.silent(1, 0), 101);
    NumberSpeech y = new NumberSpeech();
    Bench.text(y, "language 0;say 5 as a;");
    y.limit(3);
    Bench.due("another object stays as it is", () -> x.told(0) + x.told(3), 100);
    Bench.due("a later object is new", () -> new NumberSpeech().told(3), 0);
  }

  private static void promise2() {
    NumberSpeech x = new NumberSpeech();
    Bench.due("feed", () -> x.feed(0x6c616e67, 0x75616765, 0x20303b73, 0x61792035, 0x20617320), 20);
    Bench.due("feed", () -> x.feed(0x6162633b, 0, 0, 0, 0), 40);
    Bench.due("the highest byte first", () -> x.text(24), 1);
    Bench.dueSaid(x, 0, 5, "abc");
    for (int i = 1; i <= 20; i++) {
      int due = 20 * i;
      Bench.due("feed no. " + i, () -> x.feed(-1, -1, -1, -1, -1), due);
    }
    Bench.due("feed of a full tape", () -> x.feed(0, 0, 0, 0, 0), -1);
    Bench.due("tape", () -> x.told(1), 400);
    Bench.due("feed is not refused", () -> x.status(0) + x.status(1), 0);
  }

  private static void promise3() {
    NumberSpeech x = new NumberSpeech();
    Bench.due("text", () -> Bench.text(x, "language 1;say 1 as a;say 2 as b;"), 2);
    Bench.due("rules", () -> x.told(4), 2);
    Bench.due("tape is empty", () -> x.told(1), 0);
    Bench.due("text of the other language", () -> Bench.text(x, "language 0;say 1 to 3 as c;"), 1);
    Bench.due("rules of language 1 stay", () -> x.told(4), 2);
    Bench.due("text in place of those", () -> Bench.text(x, "language 1;say 7 as d;"), 1);
    Bench.dueSaid(x, 1, 1, null);
    Bench.dueSaid(x, 1, 7, "d");
    Bench.due("text without rules", () -> Bench.text(x, "language 1;"), 0);
    Bench.due("no rules", () -> x.told(4), 0);
    Bench.bring(x, "language 0;say 5 as e;language");
    Bench.due("text of the first bytes alone", () -> x.text(22), 1);
    Bench.due("the whole tape is empty", () -> x.told(1), 0);
    Bench.due("a fault less 10", () -> Bench.text(x, "language 0;say 5 as"), -9);
    Bench.due("a fault empties the tape", () -> x.told(1), 0);
    Bench.dueSaid(x, 0, 5, "e");
    Bench.bring(x, "language 0;");
    Bench.wrong("text below 0", () -> x.text(-1));
    Bench.wrong("text above the tape", () -> x.text(21));
    Bench.wrong("text above all", () -> x.text(Integer.MAX_VALUE));
    Bench.due("the tape stays", () -> x.told(1), 20);
    Bench.due("the fault stays", () -> x.fault(), 19);
    Bench.due("text of none", () -> x.text(0), -9);
    blanksAndWords();
  }

  private static void blanksAndWords() {
    NumberSpeech x = new NumberSpeech();
    Bench.due("blanks everywhere", () -> Bench.text(x, "  language  1  ;  say  5  to  6  every  2  1  as  to  ~  as  /  3  ;   "), 1);
    Bench.due("no blanks but needed ones", () -> Bench.text(x, "language0;say5to69every3 0as to as say every%1#2-3;"), -7);
    Bench.due("no blanks but needed ones", () -> Bench.text(x, "language0;say5to69every3 0as to as say~every/30;"), 1);
    Bench.due("from", () -> x.rule(0, 0, 0), 5);
    Bench.due("to", () -> x.rule(0, 0, 1), 69);
    Bench.due("d", () -> x.rule(0, 0, 2), 3);
    Bench.due("zeros ahead", () -> Bench.text(x, "language 00;say 0000000000000005 to 0999999999 as /000010;"), 1);
    Bench.due("to", () -> x.rule(0, 0, 1), 999999999);
    Bench.due("highest numbers", () -> Bench.text(x, "language 0;say 999999999 every 9999 9998 as +999999 -999999;"), 1);
    Bench.due("a rule that fits none", () -> Bench.text(x, "language 0;say 5 every 2 0 as a;"), 1);
    Bench.due("six items", () -> Bench.text(x, "language 0;say 5 as a b ~ c d abcdefgh;"), 1);
  }

  private static void promise4() {
    NumberSpeech x = new NumberSpeech();
    Bench.due("no text yet", () -> x.fault(), -1);
    Bench.text(x, "languag 0;");
    Bench.due("fault", () -> x.fault(), 0);
    Bench.text(x, "language 0;");
    Bench.due("no fault", () -> x.fault(), -1);
    Bench.more(x, "language 0;say 5;");
    Bench.due("fault of more", () -> x.fault(), 16);
    x.limit(7);
    x.undo();
    Bench.due("fault stays over undo", () -> x.fault(), 16);
    Bench.more(x, "language 0;say 5 as a;");
    Bench.due("no fault of more", () -> x.fault(), -1);
    misplaced();
    badNumbers();
    tooMany();
    badGlue();
  }

  private static void misplaced() {
    Bench.dueFault("", 1, 0);
    Bench.dueFault("   ", 1, 3);
    Bench.dueFault("languages 0;", 1, 0);
    Bench.dueFault(" Language 0;", 1, 1);
    Bench.dueFault("kanguage 0;", 1, 0);
    Bench.dueFault("languagf 0;", 1, 0);
    Bench.dueFault("languag 0;", 1, 0);
    Bench.dueFault("language", 1, 8);
    Bench.dueFault("language  ", 1, 10);
    Bench.dueFault("language ;", 1, 9);
    Bench.dueFault("language 0 ", 1, 11);
    Bench.dueFault("language 0 0;", 1, 11);
    Bench.dueFault(HEAD + "\t", 1, 11);
    Bench.dueFault(HEAD + "\u00e9", 1, 11);
    Bench.dueFault(HEAD + ";", 1, 11);
    Bench.dueFault(HEAD + " says 5 as a;", 1, 12);
    Bench.dueFault(HEAD + "say", 1, 14);
    Bench.dueFault(HEAD + "say to 5 as a;", 1, 15);
    Bench.dueFault(HEAD + "say 5 a;", 1, 17);
    Bench.dueFault(HEAD + "say 5 toas a;", 1, 17);
    Bench.dueFault(HEAD + "say 5 to as a;", 1, 20);
    Bench.dueFault(HEAD + "say 5 every 3 as a;", 1, 25);
    Bench.dueFault(HEAD + "say 5 every 3 1 to 9 as a;", 1, 27);
    Bench.dueFault(HEAD + "say 5 ;", 1, 17);
    Bench.dueFault(HEAD + "say 5 as", 1, 19);
    Bench.dueFault(HEAD + "say 5 as ;", 1, 20);
    Bench.dueFault(HEAD + "say 5 as a", 1, 21);
    Bench.dueFault(HEAD + "say 5 as a 5;", 1, 22);
    Bench.dueFault(HEAD + "say 5 as a /;", 1, 23);
    Bench.dueFault(HEAD + "say 5 as a / b;", 1, 24);
    Bench.dueFault(HEAD + "say 5 as a !;", 1, 22);
    Bench.dueFault(HEAD + "say 5 as a abcdefghi;", 1, 22);
    Bench.dueFault(HEAD + "say 5 as a~abcdefghi;", 1, 22);
    Bench.dueFault(HEAD + "say 5 as a~", 1, 22);
    Bench.dueFault(HEAD + "say 5 as a~  ", 1, 24);
    Bench.dueFault(HEAD + "say 5 as a~?", 1, 22);
    Bench.dueFault(HEAD + "say 5 as a;;", 1, 22);
    Bench.dueFault(HEAD + "say 5 as a;say 4 to 3 as b; x", 2, 31);
  }

  private static void badNumbers() {
    Bench.dueFault("language 2;", 2, 9);
    Bench.dueFault("language 10", 2, 9);
    Bench.dueFault("language 99999999999999999999999999;", 2, 9);
    Bench.dueFault(HEAD + "say 1000000000 as a;", 2, 15);
    Bench.dueFault(HEAD + "say 9999999990 as a;", 2, 15);
    Bench.dueFault(HEAD + "say 4294967301 as a;", 2, 15);
    Bench.dueFault(HEAD + "say 18446744073709551621 as a;", 2, 15);
    Bench.dueFault(HEAD + "say 5 to 4 as a;", 2, 20);
    Bench.dueFault(HEAD + "say 5 to 1000000000 as a;", 2, 20);
    Bench.dueFault(HEAD + "say 5 every 0 0 as a;", 2, 23);
    Bench.dueFault(HEAD + "say 5 every 10000 0 as a;", 2, 23);
    Bench.dueFault(HEAD + "say 5 every 1 1 as a;", 2, 25);
    Bench.dueFault(HEAD + "say 5 as /0;", 2, 21);
    Bench.dueFault(HEAD + "say 5 as % 1000000;", 2, 22);
    Bench.dueFault(HEAD + "say 5 as #0;", 2, 21);
    Bench.dueFault(HEAD + "say 5 as -0;", 2, 21);
    Bench.dueFault(HEAD + "say 5 as a~+0;", 2, 23);
  }

  private static String rules(int many) {
    StringBuilder text = new StringBuilder(HEAD);
    for (int i = 0; i < many; i++) text.append("say5as/9;");
    return text.toString();
  }

  private static void tooMany() {
    Bench.dueFault(HEAD + "say 5 as a b c d e f g;", 3, 32);
    Bench.dueFault(HEAD + "say 5 as a b c d e f abcdefghi;", 3, 32);
    Bench.dueFault(HEAD + "say 5 as a b c d e f /0;", 3, 32);
    Bench.dueFault(HEAD + "say 5 as a b c d e f ~;", 3, 32);
    Bench.dueFault(HEAD + "say 5 as a b c d e ~ ~ f;", 3, 32);
    Bench.dueFault(HEAD + "say 5 as a b c d e ~ f;", 3, 32);
    Bench.dueFault(HEAD + "say 5 as a b c d e f 7;", 1, 32);
    Bench.dueFault(rules(30) + " say", 3, 282);
    Bench.dueFault(rules(30) + " sag", 1, 282);
    NumberSpeech x = new NumberSpeech();
    Bench.due("thirty rules", () -> Bench.text(x, rules(30) + "  "), 30);
    Bench.due("thirty in place of thirty", () -> Bench.text(x, rules(30)), 30);
  }

  private static void badGlue() {
    Bench.dueFault(HEAD + "say 5 as ~a;", 4, 20);
    Bench.dueFault(HEAD + "say 5 as ~;", 4, 20);
    Bench.dueFault(HEAD + "say 5 as ~~", 4, 20);
    Bench.dueFault(HEAD + "say 5 as a ~  ;", 4, 22);
    Bench.dueFault(HEAD + "say 5 as a ~ ~ b;", 4, 24);
    Bench.dueFault(HEAD + "say 5 as a ~ ~;", 4, 24);
    Bench.dueFault(HEAD + "say 5 as a b c d e ~;", 4, 30);
  }

  private static void promise5() {
    NumberSpeech x = new NumberSpeech();
    Bench.due("more of none", () -> Bench.more(x, "language 0;say 1 as a;"), 1);
    Bench.due("more", () -> Bench.more(x, "language 0;say 1 as b;say 2 as c;"), 3);
    Bench.dueSaid(x, 0, 1, "a");
    Bench.dueSaid(x, 0, 2, "c");
    Bench.due("more without rules", () -> Bench.more(x, "language 0;"), 3);
    Bench.due("can be taken back", () -> x.told(2), 3);
    Bench.due("more up to thirty", () -> Bench.more(x, rules(27)), 30);
    Bench.due("more than thirty", () -> Bench.more(x, "language 0; say 9 as x;"), -7);
    Bench.due("fault", () -> x.fault(), 12);
    Bench.due("rules stay", () -> x.told(3), 30);
    Bench.due("faults can't be taken back", () -> x.told(2), 4);
    Bench.due("thirty in the other language, too", () -> Bench.more(x, rules(30).replace("language 0", "language 1")), 30);
    Bench.wrong("more above the tape", () -> x.more(1));
    Bench.wrong("more below 0", () -> x.more(-1));
    Bench.due("more of no bytes", () -> x.more(0), -9);
    Bench.due("fault", () -> x.fault(), 0);
  }

  private static void promise34() {
    NumberSpeech x = new NumberSpeech();
    Bench.due("none refused", () -> x.status(0) + x.status(1), 0);
    Bench.missing("drop", () -> x.drop(0, 0));
    Bench.missing("drop", () -> x.drop(3, 0));
    Bench.wrong("limit", () -> x.limit(0));
    Bench.due("status 0", () -> x.status(0), 2);
    Bench.due("status 1", () -> x.status(1), 1);
    Bench.missing("both ways wrong", () -> x.said(-1, 0, 9));
    x.limit(5);
    x.undo();
    Bench.due("status 0 stays over undo", () -> x.status(0), 3);
    Bench.due("status 1 stays over undo", () -> x.status(1), 1);
    Bench.due("status of others", () -> x.status(2), -1);
    Bench.due("status of others", () -> x.status(-1), -1);
    Bench.due("status of others", () -> x.status(Integer.MIN_VALUE), -1);
    Bench.bring(x, "A");
    Bench.wrong("ways of a capital", () -> x.ways(0, 1, 0));
    Bench.wrong("ways of nothing", () -> x.ways(0, 0, 0));
    Bench.missing("way of a language", () -> x.way(2, 0, 0, 0));
    Bench.due("status 0", () -> x.status(0), 4);
    Bench.due("status 1", () -> x.status(1), 3);
    Bench.due("none", () -> NumberSpeech.NONE, -1);
  }

  public static void main(String[] args) {
    promise1();
    promise2();
    promise3();
    promise4();
    promise5();
    promise34();
    Bench.end("PromisesOfTexts");
  }
}
