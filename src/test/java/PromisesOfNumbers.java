/** Promises 14 to 18 and the terms: what one number is said, and why it is silent. */
public final class PromisesOfNumbers {
  private static void dueCauses(NumberSpeech x, int n, int[][] due) {
    Bench.due("causes of " + n, () -> x.causes(0, n), due.length);
    for (int k = 0; k < due.length; k++) {
      for (int what = 0; what < 4; what++) {
        int deep = k;
        int w = what;
        Bench.due("cause " + k + "," + w + " of " + n, () -> x.cause(0, n, deep, w), due[k][w]);
      }
    }
    Bench.missing("one cause more of " + n, () -> x.cause(0, n, due.length, 0));
  }

  private static void saidByItems() {
    NumberSpeech x = Bench.by("say 0 as zero;say 1 as one;say 2 as two;say 3 as three;say 20 as /10 x;say 21 to 29 as a %10 b;"
        + "say 30 to 39 as a #10 b;say 40 as -39;say 50 as x +950;say 1000 as thousand;");
    Bench.dueSaid(x, 0, 20, "two x");
    Bench.dueSaid(x, 0, 23, "a three b");
    Bench.dueSaid(x, 0, 30, "a zero b");
    Bench.dueSaid(x, 0, 31, "a one b");
    Bench.dueSaid(x, 0, 40, "one");
    Bench.dueSaid(x, 0, 50, "x thousand");
    NumberSpeech y = Bench.by("say 0 as never;say 10 to 20 as a %5 b;say 1 as c;");
    Bench.dueSaid(y, 0, 15, "a b");
    Bench.dueSaid(y, 0, 16, "a c b");
    NumberSpeech first = Bench.by("say 5 as a;say 0 to 9 as b;");
    Bench.dueSaid(first, 0, 5, "a");
    Bench.dueSaid(first, 0, 4, "b");
    NumberSpeech empty = Bench.by("say 0 as %1;say 1 as -1 a;say 2 as a -2;say 3 as a -3 b;say 4 as -4 -4;");
    Bench.dueSaid(empty, 0, 0, "");
    Bench.dueSaid(empty, 0, 1, "a");
    Bench.dueSaid(empty, 0, 2, "a");
    Bench.dueSaid(empty, 0, 3, "a b");
    Bench.dueSaid(empty, 0, 4, "");
  }

  private static void glue() {
    NumberSpeech x = Bench.by("say 0 as %1;say 1 as a~b;say 2 as a ~ %1 b;say 3 as a %1 ~ b;say 4 as a~%1~b c;say 5 as %1~a b;"
        + "say 6 as a~-6 b;say 7 as a -7~b;say 8 as a~b c~d;say 9 as a b~%1;say 10 as -9~-9;say 11 as a~-8 b;");
    Bench.dueSaid(x, 0, 1, "ab");
    Bench.dueSaid(x, 0, 2, "ab");
    Bench.dueSaid(x, 0, 3, "ab");
    Bench.dueSaid(x, 0, 4, "ab c");
    Bench.dueSaid(x, 0, 5, "a b");
    Bench.dueSaid(x, 0, 6, "ab");
    Bench.dueSaid(x, 0, 7, "ab");
    Bench.dueSaid(x, 0, 8, "ab cd");
    Bench.dueSaid(x, 0, 9, "a b");
    Bench.dueSaid(x, 0, 10, "abab");
    Bench.dueSaid(x, 0, 11, "aab b");
  }

  private static void promise14() {
    saidByItems();
    glue();
    NumberSpeech x = Bench.by("say 5 as ab~c d;say 999999999 as x;say 0 as %1;");
    Bench.due("bytes", () -> x.said(0, 5, 0), 5);
    Bench.due("words", () -> x.said(0, 5, 1), 2);
    Bench.due("letters", () -> x.said(0, 5, 2), 4);
    for (int what = 0; what < 3; what++) {
      int w = what;
      Bench.due("of nothing", () -> x.said(0, 0, w), 0);
      Bench.due("of a silent one", () -> x.said(0, 6, w), -1);
      Bench.due("of one below", () -> x.said(0, -1, w), -1);
      Bench.due("of one above", () -> x.said(0, 1000000000, w), -1);
      Bench.due("of the highest", () -> x.said(0, 999999999, w), 1);
    }
    Bench.wrong("said of another what", () -> x.said(0, 5, 3));
    Bench.wrong("said of another what", () -> x.said(0, 5, -1));
    Bench.missing("said of no language", () -> x.said(2, 5, 3));
  }

  private static void promise15() {
    NumberSpeech x = Bench.by("say 5 as ab c;");
    Bench.due("at 0", () -> x.at(0, 5, 0), 'a');
    Bench.due("at 2", () -> x.at(0, 5, 2), ' ');
    Bench.due("at 3", () -> x.at(0, 5, 3), 'c');
    Bench.due("at 4", () -> x.at(0, 5, 4), -1);
    Bench.due("at -1", () -> x.at(0, 5, -1), -1);
    Bench.due("at the highest", () -> x.at(0, 5, Integer.MAX_VALUE), -1);
    Bench.due("at the lowest", () -> x.at(0, 5, Integer.MIN_VALUE), -1);
    Bench.due("at of a silent one", () -> x.at(0, 6, 0), -1);
    Bench.missing("at of no language", () -> x.at(-1, 5, 0));
  }

  private static void promise16() {
    NumberSpeech x = Bench.by("say 0 as a;say 1 as b %1;say 2 to 4 as -1 -2;say 5 as #5 %5 -5;say 7 as +7;");
    Bench.due("asked 0", () -> x.asked(0, 0), 0);
    Bench.due("a rest of 0 is not asked for", () -> x.asked(0, 1), 0);
    Bench.due("asked 2", () -> x.asked(0, 2), 2);
    Bench.due("asked 3: 2, 1, 0 of it, 1", () -> x.asked(0, 3), 4);
    Bench.due("asked 4", () -> x.asked(0, 4), 8);
    Bench.due("a rest of 0 is asked for by #", () -> x.asked(0, 5), 2);
    Bench.due("asked of a silent one", () -> x.asked(0, 7), -1);
    Bench.due("asked of one below", () -> x.asked(0, -1), -1);
    Bench.missing("asked of no language", () -> x.asked(2, 0));
  }

  private static void promise17And18() {
    NumberSpeech x = Bench.by("say 5 as a;say 6 as a +7;say 7 as -8;say 8 as a ~ +2;say 9 as b +999999;say 10 as -3;say 11 as -6 +999998;"
        + "say 1000009 as +999999;say 999999999 as +1;say 999 to 100000 as +999;");
    Bench.due("none of one that is said", () -> x.causes(0, 5), 0);
    Bench.missing("cause of one that is said", () -> x.cause(0, 5, 0, 0));
    dueCauses(x, 4, new int[][] {{4, 1, -1, -1}});
    dueCauses(x, -7, new int[][] {{-7, 2, -1, -1}});
    dueCauses(x, Integer.MAX_VALUE, new int[][] {{Integer.MAX_VALUE, 2, -1, -1}});
    dueCauses(x, Integer.MIN_VALUE, new int[][] {{Integer.MIN_VALUE, 2, -1, -1}});
    dueCauses(x, 6, new int[][] {{6, 0, 1, 1}, {13, 1, -1, -1}});
    dueCauses(x, 10, new int[][] {{10, 0, 5, 0}, {7, 0, 2, 0}, {-1, 2, -1, -1}});
    dueCauses(x, 8, new int[][] {{8, 0, 3, 2}, {10, 0, 5, 0}, {7, 0, 2, 0}, {-1, 2, -1, -1}});
    dueCauses(x, 11, new int[][] {{11, 0, 6, 1}, {1000009, 0, 7, 0}, {2000008, 1, -1, -1}});
    dueCauses(x, 999999999, new int[][] {{999999999, 0, 8, 0}, {1000000000, 2, -1, -1}});
    Bench.wrong("cause of another what", () -> x.cause(0, 4, 0, 4));
    Bench.wrong("cause of another what", () -> x.cause(0, 4, 0, -1));
    Bench.missing("cause that is none", () -> x.cause(0, 4, 1, 4));
    Bench.missing("cause below 0", () -> x.cause(0, 4, -1, 0));
    Bench.missing("cause of no language", () -> x.cause(2, 4, 0, 0));
    Bench.missing("causes of no language", () -> x.causes(2, 4));
    loops();
    deep();
    tooLong();
    tooMany();
  }

  private static void loops() {
    NumberSpeech x = Bench.by("say 1 as a +1;say 2 as -1;say 3 as +0001 -3;say 4 as -1;say 0 as #1;");
    dueCauses(x, 1, new int[][] {{1, 0, 0, 1}, {2, 0, 1, 0}, {1, 3, -1, -1}});
    dueCauses(x, 2, new int[][] {{2, 0, 1, 0}, {1, 0, 0, 1}, {2, 3, -1, -1}});
    dueCauses(x, 0, new int[][] {{0, 0, 4, 0}, {0, 3, -1, -1}});
    Bench.due("2 was silent by itself, too", () -> x.silent(0, 0), 101);
    dueCauses(x, 1, new int[][] {{1, 0, 0, 1}, {2, 0, 1, 0}, {1, 3, -1, -1}});
  }

  private static void deep() {
    NumberSpeech x = Bench.by("say 0 as z;say 1 to 40 as -1;say 50 as -20;say 60 as -31 a;say 70 to 71 as -50;");
    Bench.due("29 below it", () -> x.asked(0, 29), 29);
    Bench.dueSaid(x, 0, 29, "z");
    Bench.dueSaid(x, 0, 30, null);
    Bench.due("thirty-one causes", () -> x.causes(0, 30), 31);
    Bench.due("the deepest", () -> x.cause(0, 30, 30, 1), 4);
    Bench.due("its number", () -> x.cause(0, 30, 30, 0), 0);
    Bench.due("its rule", () -> x.cause(0, 30, 30, 2), -1);
    Bench.due("the one above", () -> x.cause(0, 30, 29, 1), 0);
    Bench.due("the one above, its rule", () -> x.cause(0, 30, 29, 2), 1);
    Bench.due("40", () -> x.cause(0, 40, 30, 0), 10);
    Bench.dueSaid(x, 0, 60, null);
    Bench.due("29 is said, but not below another one", () -> x.cause(0, 60, 30, 0), 0);
    Bench.due("20 and 21 below another one", () -> x.asked(0, 70), 21);
    NumberSpeech loop = Bench.by("say 0 to 50 as +1;");
    Bench.due("the 31st, ahead of no rule", () -> loop.cause(0, 21, 30, 1), 4);
    Bench.due("no rule ahead", () -> loop.cause(0, 22, 29, 1), 1);
    NumberSpeech back = Bench.by("say 1 to 29 as +1;say 30 as -29;");
    Bench.due("itself ahead of the 31st", () -> back.cause(0, 2, 30, 1), 3);
    NumberSpeech below = Bench.by("say 0 to 29 as -1;");
    Bench.due("below 0 ahead of the 31st", () -> below.cause(0, 29, 30, 1), 2);
  }

  private static void tooLong() {
    NumberSpeech x = Bench.by("say 50 as aaaaaaaa bbbbbbbb cccccccc dddddddd ~eeeeeeee;say 47 as gg ~-2;say 45 as aaaaaaaa bbbbbbbb cccccccc dddddddd +2;"
        + "say 51 as -1 -1 ccccccc ~%1 d;say 52 as -2~-2 ccccccc ~ d;say 53 as -3 -3 cccccccc;say 54 as -4 ~-4 -1 e;");
    Bench.due("bytes", () -> x.said(0, 50, 0), 43);
    Bench.due("96 bytes", () -> x.said(0, 51, 0), 96);
    Bench.due("95 bytes", () -> x.said(0, 52, 0), 95);
    Bench.due("96 bytes", () -> x.said(0, 53, 0), 96);
    dueCauses(x, 54, new int[][] {{54, 5, 6, 3}});
    NumberSpeech y = Bench.by("say 1 as aaaaaaaa aaaaaaaa aaaaaaaa aaaaaaaa aaaaaaaa aaaa;say 2 as -1~-1 b;say 3 as -2;say 4 as -3~b;say 5 as -3 c;"
        + "say 6 as -3 -6;say 7 as -2;");
    Bench.due("49 bytes", () -> y.said(0, 1, 0), 49);
    Bench.due("100 bytes", () -> y.said(0, 2, 0), 100);
    Bench.dueSaid(y, 0, 3, Bench.said(y, 0, 1));
    Bench.due("50 bytes", () -> y.said(0, 4, 0), 50);
    Bench.due("101 bytes", () -> y.said(0, 5, 0), -1);
    dueCauses(y, 5, new int[][] {{5, 5, 4, 1}});
    dueCauses(y, 6, new int[][] {{6, 0, 5, 1}, {0, 1, -1, -1}});
    dueCauses(y, 7, new int[][] {{7, 0, 6, 0}, {5, 5, 4, 1}});
  }

  private static void tooMany() {
    NumberSpeech x = Bench.by("say 0 as %1;say 1 to 9 as -1 -1;say 10 as -2 -2 -4 -4;");
    Bench.due("asked 8", () -> x.asked(0, 8), 510);
    Bench.due("asked 10, by 8 twice: the second one is too many", () -> x.asked(0, 10), -1);
    int last = x.causes(0, 10) - 1;
    Bench.due("which", () -> x.cause(0, 10, last, 1), 6);
    Bench.due("rule", () -> x.cause(0, 10, last, 2), -1);
    Bench.due("item above", () -> x.cause(0, 10, last - 1, 1), 0);
    NumberSpeech y = Bench.by("say 0 as %1;say 1 to 6 as -1 -1;say 7 as -1 -1 -1 -1 -1 -1;say 8 as -1 -2 -5 -7 -8 -8;say 9 as -1 -9;");
    Bench.due("asked 6", () -> y.asked(0, 6), 126);
    Bench.due("asked 7", () -> y.asked(0, 7), 762);
    Bench.due("asked 8", () -> y.asked(0, 8), 763 + 127 + 15 + 3 + 2);
    Bench.due("asked 9", () -> y.asked(0, 9), 912);
    NumberSpeech z = Bench.by("say 0 as %1;say 1 to 6 as -1 -1;say 7 as -1 -1 -1 -1 -1 -1;say 8 as -1 -2 -4 -4 -5 -5;say 9 as -1 -9 -9;say 10 as -1 -10;");
    Bench.due("asked 8", () -> z.asked(0, 8), 763 + 127 + 31 + 31 + 15 + 15);
    Bench.due("asked 9", () -> z.asked(0, 9), 985);
    Bench.due("asked 10", () -> z.asked(0, 10), 987);
    NumberSpeech twice = Bench.by("say 0 as %1;say 1 to 8 as -1 -1;say 9 as -1;say 10 as -2 -2;");
    Bench.due("asked 9", () -> twice.asked(0, 9), 511);
    Bench.due("asked 10", () -> twice.asked(0, 10), -1);
    exactlyAThousand();
  }

  /** 1,000 numbers asked for can be, 1,001 not. */
  private static void exactlyAThousand() {
    NumberSpeech x = Bench.by("say 0 as %1;say 1 to 6 as -1 -1;say 7 as -1 -1 -1 -1 -1 -1;say 8 as -1 -2 -4 -4 -5 -5;say 9 as -1 -7 -7;"
        + "say 10 as -1 -10 -10 -10;say 11 as -2 -11 -11 -11;");
    Bench.due("asked 8", () -> x.asked(0, 8), 982);
    Bench.due("asked 9", () -> x.asked(0, 9), 997);
    Bench.due("asked 11: 1,001", () -> x.asked(0, 11), -1);
    NumberSpeech y = Bench.by("say 0 as %1;say 1 to 6 as -1 -1;say 7 as -1 -1 -1 -1 -1 -1;say 8 as -1 -2 -4 -4 -5 -5;say 9 as -1 -7 -7;"
        + "say 10 as -1 -10 -10;say 11 as -2 -11 -11;say 12 as -3 -12 -12 -12;");
    Bench.due("exactly 1,000", () -> y.asked(0, 10), 1000);
    Bench.due("exactly 1,000", () -> y.asked(0, 11), 1000);
    dueCauses(y, 12, new int[][] {{12, 0, 7, 3}, {0, 6, -1, -1}});
    Bench.dueSaid(y, 0, 10, "");
  }

  /** Texts as long as can be, of so many numbers above all that each place where the object may keep one is used to its end. */
  private static void longAboveAll() {
    String even = "aaaaaaaa bbbbbbbb cccccccc dddddddd eeeeeeee fffff";
    String odd = even.replace('f', 'g');
    NumberSpeech x = Bench.by("say 0 to 2000 every 2 0 as " + even + ";say 0 to 2000 as " + odd + ";say 2001 to 2400 as -1500 ~ -1500;"
        + "say 3001 to 3400 as -1000;", "say 0 as " + even + ";say 1 as " + odd + ";say 10 to 11 as #10 ~ #10;");
    for (int n = 3001; n <= 3151; n++) {
      int asking = n;
      Bench.due("said " + n + ", as " + (n - 1000), () -> x.said(0, asking, 0), 100);
      Bench.due("its last byte", () -> x.at(0, asking, 99), n % 2 == 0 ? 'f' : 'g');
      Bench.due("heard " + (n - 1000), () -> x.heard(1, asking - 1000), 1);
    }
  }

  public static void main(String[] args) {
    longAboveAll();
    promise14();
    promise15();
    promise16();
    promise17And18();
    Bench.end("PromisesOfNumbers");
  }
}
