/** Texts of rules, made by a fixed row of numbers. */
public final class Texts {
  static long seed;

  private Texts() { }

  static int pick(int many) {
    seed = seed * 6364136223846793005L + 1442695040888963407L;
    return (int) ((seed >>> 33) % many);
  }

  static int oneOf(int... values) { return values[pick(values.length)]; }

  static String word() {
    if (pick(40) == 0) return "abcdefghi".substring(0, 7 + pick(3));
    if (pick(12) == 0) return new String[] {"to", "as", "say", "every", "language"}[pick(5)];
    String letters = "";
    for (int i = 1 + pick(pick(3) == 0 ? 8 : 2); i > 0; i--) letters += (char) ('a' + pick(3));
    return letters;
  }

  static String item() {
    switch (pick(9)) {
      case 0: return "/" + oneOf(2, 3, 10, 100, 1 + pick(20));
      case 1: case 2: return "%" + oneOf(2, 3, 10, 100, 1 + pick(20));
      case 3: return "#" + oneOf(2, 3, 10, 100, 1 + pick(20));
      case 4: return "-" + oneOf(1, 1, 2, 3, 10, 1 + pick(100));
      case 5: return "+" + oneOf(1, 1, 2, 100, 999999, 1 + pick(30));
      default: return word();
    }
  }

  static String rule(int top) {
    StringBuilder text = new StringBuilder("say ");
    int from = pick(8) == 0 ? 0 : pick(top);
    text.append(from);
    int kind = pick(4);
    if (kind == 1) text.append(" to ").append(from + pick(top));
    if (kind == 2) text.append(" to ").append(from + pick(10));
    if (kind == 3) text.append(" to ").append(pick(2) == 0 ? 999999999 : from + 20);
    if (pick(4) == 0) {
      int d = 1 + pick(5);
      text.append(" every ").append(d).append(' ').append(pick(d));
    }
    text.append(" as");
    int many = 1 + pick(pick(3) == 0 ? 6 : 3);
    boolean glue = true;
    for (int i = 0; i < many; i++) {
      if (!glue && i + 1 < many && pick(3) == 0) {
        text.append(pick(2) == 0 ? "~" : " ~ ");
        glue = true;
      } else {
        text.append(' ').append(item());
        glue = false;
      }
    }
    return text.append(';').toString();
  }

  static final String[] ENGLISH = {
    "language 0;say 0 as zero;say 1 as one;say 2 as two;say 3 as three;say 4 as four;say 5 as five;say 6 as six;say 7 as seven;"
      + "say 8 as eight;say 9 as nine;say 10 as ten;say 11 as eleven;say 12 as twelve;say 13 as thir~teen;",
    "language 0;say 15 as fif~teen;say 18 as eighteen;say 13 to 19 as %10~teen;say 20 to 29 as twenty %10;say 30 to 39 as thirty %10;"
      + "say 40 to 49 as forty %10;say 50 to 59 as fifty %10;say 80 to 89 as eighty %10;",
    "language 0;say 60 to 99 as /10~ty %10;say 100 to 999 as /100 hundred %100;say 1000 to 999999 as /1000 thousand %1000;"
      + "say 1000000 to 999999999 as /100000 lakh %100000;",
  };

  static String text(boolean heavy) {
    StringBuilder text = new StringBuilder("language ").append(pick(2)).append(';');
    int many = heavy ? 2 + pick(20) : pick(8);
    int top = oneOf(3, 10, 40, 110);
    boolean grounded = pick(4) > 0;
    if (grounded) {
      for (int n = 0, last = pick(6); n <= last; n++) text.append("say ").append(n).append(" as ").append(ground()).append(';');
      for (int i = pick(3); i > 0; i--) text.append(step());
    }
    for (int i = 0; i < many; i++) {
      String rule = rule(top);
      if (text.length() + rule.length() > 400) break;
      text.append(rule);
    }
    if (pick(3) == 0) text.append(' ');
    return text.toString();
  }

  static String ground() { return pick(5) == 0 ? "%1" : pick(3) == 0 ? word() + " " + word() : word(); }

  /** A rule that leads down. */
  static String step() {
    int k = oneOf(2, 3, 5, 10);
    String[] ways = {"/" + k + " %" + k, "/" + k + "~%" + k, "-1 x", "x ~ -1", "-1 -1", "-1~a~-2", "-2 b", "/" + k + " a #" + k, "/2 /2", "a /3 ~ b",
      "-1 " + word() + " " + word(), "/" + k + "~" + word() + " %" + k};
    int from = 1 + pick(8);
    return "say " + from + " to " + (from + oneOf(5, 40, 100, 1000, 999999000)) + (pick(4) == 0 ? " every 2 1" : "") + " as " + ways[pick(ways.length)] + ";";
  }

  static String spoilt(String text) {
    StringBuilder spoilt = new StringBuilder(text);
    for (int i = 1 + pick(2); i > 0; i--) {
      int place = pick(spoilt.length());
      String sign = new String[] {" ", ";", "~", "/", "%", "0", "9", "a", "x", "-", "say ", " as ", " to ", "?", "\u00e9", "~~", "000"}[pick(17)];
      switch (pick(3)) {
        case 0: spoilt.deleteCharAt(place); break;
        case 1: spoilt.insert(place, sign); break;
        default: spoilt.replace(place, place + 1, sign); break;
      }
      if (spoilt.length() == 0) return "x";
    }
    return spoilt.length() > 400 ? spoilt.substring(0, 400) : spoilt.toString();
  }

  /** Rules by which many numbers are asked for, texts grow long, and loops run deep. */
  static String busy(int language) {
    StringBuilder text = new StringBuilder("language " + language + ";say 0 to " + pick(3) + " as ");
    text.append(pick(2) == 0 ? "%1" : word().substring(0, 1)).append(';');
    for (int i = 1 + pick(4); i > 0; i--) {
      int from = 1 + pick(30);
      text.append("say " + from + " to " + (from + oneOf(3, 10, 40, 900)) + (pick(3) == 0 ? " every 3 " + pick(3) : "") + " as");
      for (int k = 1 + pick(5), last = k; k > 0; k--) {
        text.append(new String[] {" -1", " -1", " -2", " /2", " +1", " /2", " %7", " #3", " ~x", " aaaaaaaa", " %1", " +300"}[pick(k == last ? 8 : 12)]);
      }
      text.append(';');
    }
    return text.append("say 3 to 50 as -1 %2;").toString();
  }
}
