/** Sentences that name a boundary case, of what one number is said and why it is silent: the terms, promises 13 to 18. */
public final class BoundsOfNumbers {
  /** n's causes: of each the number, which, the rule, the item. */
  private static void dueCauses(NumberSpeech x, int n, int[][] due) {
    Bench.due("causes of " + n, () -> x.causes(0, n), due.length);
    for (int k = 0; k < due.length; k++) {
      int deep = k;
      for (int what = 0; what < 4; what++) {
        int w = what;
        Bench.due("cause " + k + " of " + n + ", " + w, () -> x.cause(0, n, deep, w), due[k][w]);
      }
    }
    Bench.due("bytes of " + n, () -> x.said(0, n, 0), -1);
  }

  private static void dueLast(NumberSpeech x, int n, int many, int number, int which) {
    Bench.due("causes of " + n, () -> x.causes(0, n), many);
    Bench.due("the last one's number", () -> x.cause(0, n, many - 1, 0), number);
    Bench.due("the last one's reason", () -> x.cause(0, n, many - 1, 1), which);
    Bench.due("the last one's rule", () -> x.cause(0, n, many - 1, 2), -1);
    Bench.due("the last one's item", () -> x.cause(0, n, many - 1, 3), -1);
  }

  private static void dueFits(NumberSpeech x, int rule, int... numbers) {
    for (int n : numbers) Bench.due("fits " + n, () -> x.fits(0, n), rule);
  }

  // ---- what fits, what items say ----

  private static void fitting() {
    Sentences.holds("Terms", "It FITS a number n from FROM to TO whose rest by D is R.", () -> {
      NumberSpeech x = Bench.by("say 10 to 18 every 4 2 as a;say 30 as b;say 40 to 41 as c;say 60 to 9999 every 9999 0 as d;say 0 to 50 every 50 0 as e;");
      dueFits(x, 0, 10, 14, 18);
      dueFits(x, 1, 30);
      dueFits(x, 2, 40, 41);
      dueFits(x, 3, 9999);
      dueFits(x, 4, 0, 50);
      dueFits(x, -1, 6, 9, 11, 12, 13, 15, 17, 19, 22, 29, 31, 39, 42, 60, 9998, 10000, 19998, 100, 49);
      NumberSpeech y = Bench.by("say 999999998 to 999999999 as a;say 0 to 0 as b;");
      dueFits(y, 0, 999999998, 999999999);
      dueFits(y, 1, 0);
      dueFits(y, -1, 1, 999999997);
    });
    Sentences.holds("Terms", "n by K (cut) is said", () -> {
      NumberSpeech x = Bench.by("say 0 as zero;say 1 as one;say 1000 as t;say 2 to 9 as /7;say 10 to 19 as /10;say 20 to 29 as /29;say 999999 as /999999;"
          + "say 999998 as /999999;say 999999999 as /999999;say 31 as /1;");
      Bench.dueSaid(x, 0, 6, "zero");
      Bench.dueSaid(x, 0, 7, "one");
      Bench.dueSaid(x, 0, 10, "one");
      Bench.dueSaid(x, 0, 19, "one");
      Bench.dueSaid(x, 0, 28, "zero");
      Bench.dueSaid(x, 0, 29, "one");
      Bench.dueSaid(x, 0, 999999, "one");
      Bench.dueSaid(x, 0, 999998, "zero");
      Bench.dueSaid(x, 0, 999999999, "t");
      dueCauses(x, 31, new int[][] {{31, 0, 9, 0}, {31, 3, -1, -1}});
    });
    Sentences.holds("Terms", "the rest of n by K is said, nothing if it is 0", () -> {
      NumberSpeech x = Bench.by("say 1 as one;say 6 as six;say 70 to 77 as a %7 b;say 80 as a %1 b;say 90 as %9;say 999999 as x %999999;say 999998 as y;say 1999997 as %999999;");
      Bench.dueSaid(x, 0, 70, "a b");
      Bench.dueSaid(x, 0, 71, "a one b");
      Bench.dueSaid(x, 0, 76, "a six b");
      Bench.dueSaid(x, 0, 77, "a b");
      Bench.dueSaid(x, 0, 80, "a b");
      Bench.dueSaid(x, 0, 90, "");
      Bench.dueSaid(x, 0, 999999, "x");
      Bench.dueSaid(x, 0, 1999997, "y");
      dueCauses(x, 72, new int[][] {{72, 0, 2, 1}, {2, 1, -1, -1}});
      Bench.due("a rest of 0 asks for none", () -> x.asked(0, 70), 0);
    });
    Sentences.holds("Terms", "that rest is said, 0, too", () -> {
      NumberSpeech x = Bench.by("say 0 as zero;say 1 as one;say 6 as six;say 70 to 77 as a #7 b;say 80 as #1;say 999999 as #999999;");
      Bench.dueSaid(x, 0, 70, "a zero b");
      Bench.dueSaid(x, 0, 71, "a one b");
      Bench.dueSaid(x, 0, 76, "a six b");
      Bench.dueSaid(x, 0, 80, "zero");
      Bench.dueSaid(x, 0, 999999, "zero");
      Bench.due("a rest of 0 is asked for", () -> x.asked(0, 70), 1);
      x.drop(0, 0);
      dueCauses(x, 70, new int[][] {{70, 0, 2, 1}, {0, 1, -1, -1}});
    });
    Sentences.holds("Terms", "n less K is said; \"+\" K: n and K is said", () -> {
      NumberSpeech x = Bench.by("say 0 as zero;say 3 as -3;say 4 as -5;say 999999999 as top;say 999999998 as +1;say 999999997 as +3;say 999000000 as +999999;"
          + "say 999999 as -999999;say 5 as -2 ~ -2;");
      Bench.dueSaid(x, 0, 3, "zero");
      Bench.dueSaid(x, 0, 999999998, "top");
      Bench.dueSaid(x, 0, 999000000, "top");
      Bench.dueSaid(x, 0, 999999, "zero");
      Bench.dueSaid(x, 0, 5, "zerozero");
      dueCauses(x, 4, new int[][] {{4, 0, 2, 0}, {-1, 2, -1, -1}});
      dueCauses(x, 999999997, new int[][] {{999999997, 0, 5, 0}, {1000000000, 2, -1, -1}});
    });
    Sentences.holds("Terms", "of two ITEMS that say anything, with glue anywhere between and none between that says anything, the second one's comes right behind the first one's", () -> {
      NumberSpeech x = Bench.by("say 0 as %1;say 1 as a~b;say 2 as a b;say 3 as a ~ %1 b;say 4 as a %1 ~ b;say 5 as a~%1~b c;say 6 as %1~a b;say 7 as a~-7 b;"
          + "say 8 as -8~a b;say 9 as a b~-9;say 10 as a~b c~d;say 11 as -10~-9;say 12 as -12 ~ %1 ~ a;say 13 as -12~-13;say 14 as a~%1 %1 %1 b;");
      String[] due = {"", "ab", "a b", "ab", "ab", "ab c", "a b", "ab", "a b", "a b", "ab cd", "aba b", "a", "ab", "ab"};
      for (int n = 0; n < due.length; n++) Bench.dueSaid(x, 0, n, due[n]);
    });
    Sentences.holds("Terms", "a blank between two that say anything, none where there is glue between", () -> {
      NumberSpeech x = Bench.by("say 0 as %1;say 1 as a %1 b;say 2 as -2 a;say 3 as a -3;say 4 as -4 a -4 b -4;say 5 as -5 -5;say 6 as a -6 -6 b;say 7 as a~-6;");
      String[] due = {"", "a b", "a", "a", "a b", "", "a b", "aa b"};
      for (int n = 0; n < due.length; n++) Bench.dueSaid(x, 0, n, due[n]);
    });
    Sentences.holds("Terms", "the first RULE that FITS, its ITEMS one behind the other", () -> {
      NumberSpeech x = Bench.by("say 5 as a;say 5 as b;say 4 to 5 as c;say 3 every 2 0 as d;say 3 as e;");
      Bench.dueSaid(x, 0, 5, "a");
      Bench.dueSaid(x, 0, 4, "c");
      Bench.dueSaid(x, 0, 3, "e");
      x.drop(0, 0);
      Bench.dueSaid(x, 0, 5, "b");
    });
    Sentences.holds("Terms", "A text may be empty, if ITEMS say nothing.", () -> {
      NumberSpeech x = Bench.by("say 0 as %1;say 1 to 2 as -1;say 3 as -1 ~ -3;");
      for (int n = 0; n < 4; n++) {
        int number = n;
        Bench.dueRow("said", w -> x.said(0, number, w), 0, 0, 0);
        Bench.due("at", () -> x.at(0, number, 0), -1);
        Bench.due("causes", () -> x.causes(0, number), 0);
      }
      Bench.due("asked", () -> x.asked(0, 3), 4);
      Bench.due("silent", () -> x.silent(0, 1), 4);
    });
  }

  // ---- why a number is silent ----

  private static void silence() {
    Sentences.holds("Terms", "SAID of n (0 to 999,999,999)", () -> {
      NumberSpeech x = Bench.by("say 0 to 999999999 as a;");
      for (int n : new int[] {0, 1, 1000, 1001, 999999998, 999999999}) Bench.dueSaid(x, 0, n, "a");
      for (int n : new int[] {-1, 1000000000, Integer.MAX_VALUE, Integer.MIN_VALUE}) {
        Bench.dueSaid(x, 0, n, null);
        dueCauses(x, n, new int[][] {{n, 2, -1, -1}});
      }
    });
    Sentences.holds("Terms", "n is SILENT, 1: if no RULE FITS", () -> {
      NumberSpeech x = Bench.by("say 4 to 6 as a;say 9 as +1;");
      dueCauses(x, 3, new int[][] {{3, 1, -1, -1}});
      dueCauses(x, 7, new int[][] {{7, 1, -1, -1}});
      dueCauses(x, 9, new int[][] {{9, 0, 1, 0}, {10, 1, -1, -1}});
      dueCauses(x, 999999999, new int[][] {{999999999, 1, -1, -1}});
      dueCauses(new NumberSpeech(), 0, new int[][] {{0, 1, -1, -1}});
      Bench.due("causes of 4", () -> x.causes(0, 4), 0);
      Bench.due("causes of 6", () -> x.causes(0, 6), 0);
    });
    Sentences.holds("Terms", "2: if it is below 0, or above 999,999,999", () -> {
      NumberSpeech x = Bench.by("say 1 as -2;say 999999999 as +1;say 2 as -2;say 999999998 as +1;say 0 as a;say 500 as -999999;");
      for (int n : new int[] {-1, 1000000000, Integer.MAX_VALUE, Integer.MIN_VALUE}) dueCauses(x, n, new int[][] {{n, 2, -1, -1}});
      dueCauses(x, 1, new int[][] {{1, 0, 0, 0}, {-1, 2, -1, -1}});
      dueCauses(x, 500, new int[][] {{500, 0, 5, 0}, {-999499, 2, -1, -1}});
      dueCauses(x, 999999999, new int[][] {{999999999, 0, 1, 0}, {1000000000, 2, -1, -1}});
      dueCauses(x, 999999998, new int[][] {{999999998, 0, 3, 0}, {999999999, 0, 1, 0}, {1000000000, 2, -1, -1}});
      Bench.dueSaid(x, 0, 2, "a");
    });
    Sentences.holds("Terms", "3: if it is asked for by an ITEM while it is being said itself", () -> {
      NumberSpeech x = Bench.by("say 3 as %7;say 4 as #9;say 5 as /1;say 6 as b +1;say 7 as -1;say 8 as a +1;say 9 as a %5 ~ +1 c;say 10 as -2;say 0 as z;"
          + "say 20 as -20 -20;say 30 as -10 -10 #30;");
      dueCauses(x, 3, new int[][] {{3, 0, 0, 0}, {3, 3, -1, -1}});
      dueCauses(x, 4, new int[][] {{4, 0, 1, 0}, {4, 3, -1, -1}});
      dueCauses(x, 5, new int[][] {{5, 0, 2, 0}, {5, 3, -1, -1}});
      dueCauses(x, 6, new int[][] {{6, 0, 3, 1}, {7, 0, 4, 0}, {6, 3, -1, -1}});
      dueCauses(x, 7, new int[][] {{7, 0, 4, 0}, {6, 0, 3, 1}, {7, 3, -1, -1}});
      dueCauses(x, 8, new int[][] {{8, 0, 5, 1}, {9, 0, 6, 1}, {4, 0, 1, 0}, {4, 3, -1, -1}});
      dueCauses(x, 10, new int[][] {{10, 0, 7, 0}, {8, 0, 5, 1}, {9, 0, 6, 1}, {4, 0, 1, 0}, {4, 3, -1, -1}});
      Bench.dueSaid(x, 0, 20, "z z");
      Bench.dueSaid(x, 0, 30, "z z z z z");
    });
    Sentences.holds("Terms", "4: if it would be the 31st that is being said", () -> {
      NumberSpeech x = Bench.by("say 0 as z;say 1 to 50 as -1;say 60 as -31;say 61 as -31 a;say 62 as -40 -60 -40;", "say 0 as a;say 1 to 50 as /50 -1;");
      Bench.dueSaid(x, 0, 29, "z");
      Bench.due("29 below", () -> x.asked(0, 29), 29);
      Bench.due("30 causes and the 31st", () -> x.causes(0, 30), 31);
      for (int k = 0; k < 30; k++) {
        int deep = k;
        Bench.due("number " + k, () -> x.cause(0, 30, deep, 0), 30 - deep);
        Bench.due("which " + k, () -> x.cause(0, 30, deep, 1), 0);
        Bench.due("rule " + k, () -> x.cause(0, 30, deep, 2), 1);
        Bench.due("item " + k, () -> x.cause(0, 30, deep, 3), 0);
      }
      dueLast(x, 30, 31, 0, 4);
      dueLast(x, 50, 31, 20, 4);
      Bench.dueSaid(x, 0, 29, "z");
      Bench.due("30 by it", () -> x.said(0, 60, 0), -1);
      dueLast(x, 60, 31, 0, 4);
      dueLast(x, 61, 31, 1, 4);
      Bench.dueSaid(x, 0, 62, "z z z");
      Bench.due("the second of two, 29 deep", () -> x.asked(1, 29), 58);
      Bench.due("30 deep", () -> x.asked(1, 30), -1);
      NumberSpeech y = Bench.by("say 0 as z;say 1 to 20 as -1;say 60 as -40 -60;say 61 to 69 as -1;say 80 as -11 -13 -80;");
      for (int first : new int[] {60, 68, 69}) {
        y.said(0, first, 0);
        Bench.due("20 deep, then none", () -> y.asked(0, 60), 22);
        Bench.due("to the 30th by the first item", () -> y.asked(0, 68), 30);
        dueLast(y, 69, 31, 0, 4);
        dueLast(y, 80, 31, 1, 4);
      }
    });
    Sentences.holds("Terms", "6: if it would be the 1,001st that is asked for by ITEMS, and theirs, in all as the uppermost one is said", BoundsOfNumbers::tooMany);
    Sentences.holds("Terms", "5: if its own text would be more than 100 bytes (as soon as one of its ITEMS brings it above that)", BoundsOfNumbers::tooLong);
    Sentences.holds("Terms", "0: if a number that one of its ITEMS asks for is SILENT (the first such)", () -> {
      NumberSpeech x = Bench.by("say 1 as a;say 5 as -4 +1 +2;say 10 as a -9 -1 +5;say 11 as -1 a;say 12 as aaaaaaaa -11;");
      dueCauses(x, 5, new int[][] {{5, 0, 1, 1}, {6, 1, -1, -1}});
      dueCauses(x, 10, new int[][] {{10, 0, 2, 2}, {9, 1, -1, -1}});
      dueCauses(x, 11, new int[][] {{11, 0, 3, 0}, {10, 0, 2, 2}, {9, 1, -1, -1}});
      Bench.dueSaid(x, 0, 12, "aaaaaaaa a");
    });
    Sentences.holds("Terms", "Asked in this order: 2, 3, 4, 6, 1; then ITEM by ITEM.", BoundsOfNumbers::order);
  }

  /** Asked for by n, and itself: 1 of 0, 3 of 1, 7 of 2, 15 of 3, 31 of 4, 63 of 5, 127 of 6, 255 of 7, 511 of 8; 995 of 20. */
  private static final String COSTS = "say 0 as %1;say 1 to 8 as -1 -1;say 20 as -12 -13 -14 -15 -16 -18;";

  private static void tooMany() {
    String rules = COSTS + "say 21 as -1 -20 -21 -21;say 22 as -2 -21 -22 -22 -22;say 23 as -3 -23 -23 -23 -23 -23;say 24 as -4 -24 -24 -24 -24 -24;"
        + "say 25 as -1;say 26 as -6 -26 -26 -26 -26 %26;say 27 as -7 -27 -27 -27 -27 #27;say 28 as -8 -28 -28 -28 -28 -28 ;say 29 as -9 -28 -27;"
        + "say 30 as -10 -22 -22;";
    for (int first : new int[] {0, 20, 21, 22, 24, 25, 29, 30}) {
      NumberSpeech x = Bench.by(rules);
      x.said(0, first, 0);
      Bench.due("asked 8", () -> x.asked(0, 8), 510);
      Bench.due("asked 20", () -> x.asked(0, 20), 994);
      Bench.due("1,000 by two and three", () -> x.asked(0, 21), 1000);
      Bench.dueSaid(x, 0, 21, "");
      dueCauses(x, 22, new int[][] {{22, 0, 4, 4}, {0, 6, -1, -1}});
      Bench.due("1,000 by five", () -> x.asked(0, 23), 1000);
      Bench.due("1,000 by five", () -> x.asked(0, 24), 1000);
      dueCauses(x, 25, new int[][] {{25, 0, 7, 0}, {24, 0, 6, 5}, {0, 6, -1, -1}});
      Bench.due("a rest of 0 is not asked for", () -> x.asked(0, 26), 999);
      Bench.due("a rest of 0 is asked for", () -> x.asked(0, 27), 1000);
      Bench.due("1,000 once more", () -> x.asked(0, 28), 1000);
      dueCauses(x, 29, new int[][] {{29, 0, 11, 2}, {2, 0, 1, 0}, {1, 0, 1, 0}, {0, 6, -1, -1}});
      dueCauses(x, 30, new int[][] {{30, 0, 12, 1}, {8, 0, 1, 0}, {7, 0, 1, 0}, {6, 0, 1, 0}, {5, 0, 1, 0}, {4, 0, 1, 0}, {3, 6, -1, -1}});
    }
  }

  private static void tooLong() {
    String fifty = "aaaaaaaa aaaaaaaa aaaaaaaa aaaaaaaa aaaaaaaa aaaaa";
    NumberSpeech x = Bench.by("say 1 as " + fifty + ";say 2 as -1~-1;say 3 as -2 -2;say 4 as -2~b;say 5 as -3~%1 %5;say 6 as -4 b;say 7 as -5 b -7;say 8 as -6 -8 b;"
        + "say 9 as -8 bbbbbbbb bbbbbbbb bbbbbbbb bbbbbbbb bbbbbbbb;say 10 as -1 bbbb;say 11 as -2 bbbbb;say 12 as -3~bbbbb;say 13 as -4~bbbbbb;say 14 as -3;"
        + "say 15 as b -6;say 16 as bbbb -7;say 17 as bbbbb -8;say 18 as -3 -3;say 19 as -17~-17~%1;say 30 as %1;say 31 as -29 -1;say 32 as -30 -2~-2 %8;");
    Bench.due("fifty bytes", () -> x.said(0, 1, 0), 50);
    Bench.dueRow("100 bytes", w -> x.said(0, 2, w), 100, 11, 90);
    Bench.due("the last byte", () -> x.at(0, 2, 99), 'a');
    Bench.due("none behind it", () -> x.at(0, 2, 100), -1);
    dueCauses(x, 3, new int[][] {{3, 5, 2, 1}});
    dueCauses(x, 4, new int[][] {{4, 5, 3, 2}});
    Bench.due("nothing more stays 100", () -> x.said(0, 5, 0), 100);
    Bench.due("nothing asked for stays 100", () -> x.said(0, 31, 0), 100);
    Bench.due("nothing asked for twice stays 100", () -> x.said(0, 32, 0), 100);
    dueCauses(x, 6, new int[][] {{6, 5, 5, 1}});
    dueCauses(x, 7, new int[][] {{7, 5, 6, 1}});
    dueCauses(x, 8, new int[][] {{8, 0, 7, 1}, {0, 1, -1, -1}});
    Bench.due("95 bytes", () -> x.said(0, 9, 0), 95);
    Bench.due("100 bytes by a blank and a word", () -> x.said(0, 10, 0), 100);
    dueCauses(x, 11, new int[][] {{11, 5, 10, 1}});
    Bench.due("100 bytes by a glued word", () -> x.said(0, 12, 0), 100);
    dueCauses(x, 13, new int[][] {{13, 5, 12, 2}});
    dueCauses(x, 14, new int[][] {{14, 0, 13, 0}, {11, 5, 10, 1}});
    Bench.due("97 bytes", () -> x.said(0, 15, 0), 97);
    Bench.due("100 bytes by what is said", () -> x.said(0, 16, 0), 100);
    dueCauses(x, 17, new int[][] {{17, 5, 16, 1}});
    dueCauses(x, 18, new int[][] {{18, 5, 17, 1}});
    dueCauses(x, 19, new int[][] {{19, 5, 18, 2}});
  }

  private static void order() {
    dueLast(Bench.by("say 0 to 29 as -1;"), 29, 31, -1, 2);
    dueLast(Bench.by("say 999999970 to 999999999 as +1;"), 999999970, 31, 1000000000, 2);
    dueCauses(Bench.by(COSTS + "say 21 as -1 -20 -21 -21 -22;"), 21, new int[][] {{21, 0, 3, 4}, {-1, 2, -1, -1}});
    NumberSpeech ring = Bench.by("say 1 to 29 as +1;say 30 as -29;");
    dueLast(ring, 1, 31, 1, 3);
    dueLast(ring, 30, 31, 30, 3);
    dueCauses(Bench.by(COSTS + "say 22 as -2 -21 -22 -22 #99;"), 22, new int[][] {{22, 0, 3, 4}, {22, 3, -1, -1}});
    NumberSpeech deep = Bench.by(COSTS + "say 470 to 499 as -1;say 500 as -492 -493 -494 -495 -497 -1;say 520 as -512 -513 -514 -515 -516 -22;");
    dueLast(deep, 500, 31, 470, 4);
    dueLast(deep, 520, 15, 485, 6);
    NumberSpeech noRule = Bench.by("say 1 to 40 as -1;");
    dueLast(noRule, 30, 31, 0, 4);
    dueLast(noRule, 29, 30, 0, 1);
    NumberSpeech many = Bench.by(COSTS + "say 21 as -1 -20 -21 -21 +400;say 22 as -2 -21 -22 +400;");
    dueLast(many, 21, 2, 421, 6);
    dueLast(many, 22, 2, 422, 1);
    NumberSpeech items = Bench.by("say 5 as +3 /1;say 6 as /1 +3;say 7 as -9 +4;say 8 as +1 -9;");
    dueCauses(items, 5, new int[][] {{5, 0, 0, 0}, {8, 0, 3, 0}, {9, 1, -1, -1}});
    dueCauses(items, 6, new int[][] {{6, 0, 1, 0}, {6, 3, -1, -1}});
    dueCauses(items, 7, new int[][] {{7, 0, 2, 0}, {-2, 2, -1, -1}});
  }

  private static void causesTold() {
    Sentences.holds("Terms", "the RULE and the ITEM by which (NONE, if it is 1 to 4, 6; of 5 the ITEM that brings it above)", () -> {
      NumberSpeech x = Bench.by("say 1 as aaaaaaaa aaaaaaaa aaaaaaaa aaaaaaaa aaaaaaaa;say 2 as -1 -1 -1 b;say 3 as a ~ b ~ +1;say 5 as a #9;say 0 as b -1;say 900 to 930 as +1;");
      dueCauses(x, 4, new int[][] {{4, 1, -1, -1}});
      dueCauses(x, -5, new int[][] {{-5, 2, -1, -1}});
      dueCauses(x, 2, new int[][] {{2, 5, 1, 2}});
      dueCauses(x, 3, new int[][] {{3, 0, 2, 4}, {4, 1, -1, -1}});
      dueCauses(x, 5, new int[][] {{5, 0, 3, 1}, {5, 3, -1, -1}});
      dueCauses(x, 0, new int[][] {{0, 0, 4, 1}, {-1, 2, -1, -1}});
      dueLast(x, 900, 31, 930, 4);
      dueLast(x, 901, 31, 931, 4);
      dueLast(x, 902, 30, 931, 1);
    });
    Sentences.holds("Terms", "if it is 0, below that the number that is asked for, likewise", () -> {
      NumberSpeech x = Bench.by("say 9 as a +1;say 10 as +1 b;say 11 as a b c +989;say 1000 as d;");
      Bench.due("causes of 11", () -> x.causes(0, 11), 0);
      Bench.dueSaid(x, 0, 9, "a a b c d b");
      x.drop(0, 3);
      dueCauses(x, 9, new int[][] {{9, 0, 0, 1}, {10, 0, 1, 0}, {11, 0, 2, 3}, {1000, 1, -1, -1}});
      dueCauses(x, 10, new int[][] {{10, 0, 1, 0}, {11, 0, 2, 3}, {1000, 1, -1, -1}});
      Bench.missing("none below", () -> x.cause(0, 10, 3, 0));
      Bench.dueSaid(x, 0, 11, null);
      Bench.dueSaid(x, 0, 1000, null);
      dueCauses(x, 9, new int[][] {{9, 0, 0, 1}, {10, 0, 1, 0}, {11, 0, 2, 3}, {1000, 1, -1, -1}});
    });
  }

  // ---- promises 13 to 18 ----

  private static void fits() {
    Sentences.holds("Promise 13", "The RULE that FITS a number (0 to 999,999,999) first; NONE.", () -> {
      NumberSpeech x = Bench.by("say 1 to 3 as a;say 3 to 5 as b;say 999999999 as c;say 0 to 1 as d;");
      int[][] due = {{0, 3}, {1, 0}, {3, 0}, {4, 1}, {5, 1}, {6, -1}, {999999998, -1}, {999999999, 2}};
      for (int[] row : due) Bench.due("fits " + row[0], () -> x.fits(0, row[0]), row[1]);
      Bench.due("without rules", () -> x.fits(1, 0), -1);
      for (int n : new int[] {-1, 1000000000, Integer.MAX_VALUE, Integer.MIN_VALUE}) Bench.wrong("fits(0," + n + ")", () -> x.fits(0, n));
      Bench.due("refused", () -> x.status(1), 4);
      StringBuilder rules = new StringBuilder();
      for (int i = 0; i < 30; i++) rules.append("say").append(i).append("as/9;");
      NumberSpeech y = Bench.by(rules.toString());
      Bench.due("the last of thirty", () -> y.fits(0, 29), 29);
    });
  }

  private static void said() {
    Sentences.holds("Promise 14", "Of a number (any): 0 how many bytes what is SAID has, 1 WORDS, 2 LETTERS; NONE each: SILENT.", () -> {
      NumberSpeech x = Bench.by("say 0 as %1;say 1 as a;say 2 as a b~c de;say 3 as abcdefgh;say 999999999 as a b;say 4 as +1;");
      Bench.dueRow("nothing", w -> x.said(0, 0, w), 0, 0, 0);
      Bench.dueRow("one letter", w -> x.said(0, 1, w), 1, 1, 1);
      Bench.dueRow("words", w -> x.said(0, 2, w), 7, 3, 5);
      Bench.dueRow("one word", w -> x.said(0, 3, w), 8, 1, 8);
      Bench.dueRow("the highest", w -> x.said(0, 999999999, w), 3, 2, 2);
      for (int n : new int[] {4, 5, -1, 1000000000, Integer.MAX_VALUE, Integer.MIN_VALUE}) Bench.dueRow("silent " + n, w -> x.said(0, n, w), -1, -1, -1);
    });
  }

  private static void at() {
    Sentences.holds("Promise 15", "Byte k of what is SAID; NONE: SILENT, there are not so many, or k is below 0.", () -> {
      NumberSpeech x = Bench.by("say 0 as %1;say 5 as az b;say 6 as z;say 999999999 as y;");
      int[] due = {'a', 'z', ' ', 'b', -1, -1};
      for (int k = 0; k < due.length; k++) {
        int at = k;
        Bench.due("byte " + k, () -> x.at(0, 5, at), due[k]);
      }
      for (int k : new int[] {-1, Integer.MIN_VALUE, 100, 101, Integer.MAX_VALUE}) Bench.due("byte " + k, () -> x.at(0, 5, k), -1);
      for (int k : new int[] {-1, 0, 1}) {
        Bench.due("of nothing", () -> x.at(0, 0, k), -1);
        Bench.due("of a silent one", () -> x.at(0, 7, k), -1);
        Bench.due("of one below", () -> x.at(0, -1, k), -1);
        Bench.due("of one above", () -> x.at(0, 1000000000, k), -1);
      }
      Bench.due("one byte", () -> x.at(0, 6, 0), 'z');
      Bench.due("none behind it", () -> x.at(0, 6, 1), -1);
      Bench.due("of the highest", () -> x.at(0, 999999999, 0), 'y');
      Bench.due("none was refused", () -> x.status(0) + x.status(1), 0);
    });
  }

  private static void asked() {
    Sentences.holds("Promise 16", "as it is SAID (each as often as it is; not itself); NONE: SILENT.", () -> {
      NumberSpeech x = Bench.by("say 0 as a;say 1 as b;say 2 as -1 -1 -1;say 3 as -1 #3;say 4 as %2 #2;say 5 as +1;say 6 as -3 +1;say 999999999 as c;say 999 as -999 ~ -998;");
      int[] due = {0, 0, 3, 5, 1, -1, -1, -1};
      for (int n = 0; n < due.length; n++) {
        int number = n;
        Bench.due("asked " + n, () -> x.asked(0, number), due[n]);
      }
      Bench.due("asked 999", () -> x.asked(0, 999), 2);
      Bench.due("asked the highest", () -> x.asked(0, 999999999), 0);
      for (int n : new int[] {-1, 1000000000, Integer.MAX_VALUE, Integer.MIN_VALUE}) Bench.due("asked " + n, () -> x.asked(0, n), -1);
      Bench.due("asked once more", () -> x.asked(0, 3), 5);
    });
  }

  private static void causes() {
    Sentences.holds("Promise 17", "How many CAUSES there are; 0: it is not SILENT.", () -> {
      NumberSpeech x = Bench.by("say 0 as %1;say 1 as a;say 2 as +1;say 3 as +1;say 999999999 as b;say 50 to 80 as -1;");
      int[] due = {0, 0, 3, 2, 1};
      for (int n = 0; n < due.length; n++) {
        int number = n;
        Bench.due("causes of " + n, () -> x.causes(0, number), due[n]);
      }
      Bench.due("causes of the highest", () -> x.causes(0, 999999999), 0);
      Bench.due("most causes", () -> x.causes(0, 80), 31);
      Bench.due("fewer again", () -> x.causes(0, 3), 2);
      for (int n : new int[] {-1, 1000000000, Integer.MAX_VALUE, Integer.MIN_VALUE}) Bench.due("causes of " + n, () -> x.causes(0, n), 1);
      Bench.due("without rules", () -> x.causes(1, 1), 1);
    });
    Sentences.holds("Promise 18", "The k-th CAUSE (0 the uppermost): 0 the number, 1 which (0 to 6), 2 the RULE, 3 the ITEM.", () -> {
      NumberSpeech x = Bench.by("say 0 as %1;say 1 as a;say 2 as b +1;say 3 as +1;say 50 to 80 as -1;");
      Bench.dueRow("the uppermost", w -> x.cause(0, 2, 0, w), 2, 0, 2, 1);
      Bench.dueRow("the next", w -> x.cause(0, 2, 1, w), 3, 0, 3, 0);
      Bench.dueRow("the last", w -> x.cause(0, 2, 2, w), 4, 1, -1, -1);
      Bench.dueRow("the 31st", w -> x.cause(0, 80, 30, w), 50, 4, -1, -1);
      for (int k : new int[] {3, -1, 30, 31, Integer.MAX_VALUE, Integer.MIN_VALUE}) Bench.missing("cause " + k, () -> x.cause(0, 2, k, 0));
      Bench.missing("the 32nd", () -> x.cause(0, 80, 31, 0));
      Bench.missing("of one that is said", () -> x.cause(0, 1, 0, 0));
      Bench.missing("of one that is said as nothing", () -> x.cause(0, 0, 0, 0));
      Bench.missing("missing ahead of wrong", () -> x.cause(0, 2, 3, 4));
      Bench.dueRow("of one below", w -> x.cause(0, -1, 0, w), -1, 2, -1, -1);
    });
  }

  public static void all() {
    fitting();
    silence();
    causesTold();
    fits();
    said();
    at();
    asked();
    causes();
  }

  public static void main(String[] args) {
    all();
    Bench.end("BoundsOfNumbers");
  }
}
