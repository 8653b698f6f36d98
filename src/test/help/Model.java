import java.util.ArrayDeque;
import java.util.ArrayList;
import java.util.Arrays;
import java.util.Collections;
import java.util.Comparator;
import java.util.HashMap;
import java.util.List;
import java.util.Map;
import java.util.NoSuchElementException;
import java.util.TreeMap;

/**
 * The document once more, told plainly and slowly with the Java library: no memo, every answer from the start.
 * Random runs of calls compare NumberSpeech with it.
 */
public final class Model {
  static final int NONE = -1;

  record Item(char sign, int value, String word) { }

  record Rule(int from, int to, int d, int r, List<Item> items) {
    boolean fits(int n) { return from <= n && n <= to && n % d == r; }
  }

  record Cause(int n, int which, int rule, int item) { }

  record State(int limit, List<Rule> zero, List<Rule> one) { }

  private State state = new State(100, List.of(), List.of());
  private final ArrayDeque<State> past = new ArrayDeque<>();
  private byte[] tape = new byte[0];
  private int faultPlace = NONE;
  private int missing = 0;
  private int wrong = 0;

  // ---- saying ----

  private final class Saying {
    final List<Rule> rules;
    final List<Integer> open = new ArrayList<>();
    int asks = 0;
    List<Cause> causes = new ArrayList<>();

    Saying(List<Rule> rules) { this.rules = rules; }

    String say(int n, boolean uppermost) {
      if (n < 0 || n > 999_999_999) return silent(n, 2, NONE, NONE);
      if (open.contains(n)) return silent(n, 3, NONE, NONE);
      if (open.size() == 30) return silent(n, 4, NONE, NONE);
      if (!uppermost && asks == 1000) return silent(n, 6, NONE, NONE);
      if (!uppermost) asks++;
      for (int i = 0; i < rules.size(); i++) {
        if (rules.get(i).fits(n)) return sayBy(i, n);
      }
      return silent(n, 1, NONE, NONE);
    }

    String sayBy(int index, int n) {
      open.add(n);
      List<Item> items = rules.get(index).items;
      String text = "";
      boolean glue = false;
      for (int i = 0; i < items.size(); i++) {
        Item item = items.get(i);
        int k = item.value;
        String part;
        switch (item.sign) {
          case '~': glue = true; continue;
          case 'w': part = item.word; break;
          case '/': part = say(n / k, false); break;
          case '%': part = n % k == 0 ? "" : say(n % k, false); break;
          case '#': part = say(n % k, false); break;
          case '-': part = say(n - k, false); break;
          default: part = say(n + k, false); break;
        }
        if (part == null) return silent(n, 0, index, i);
        if (part.isEmpty()) continue;
        text = text.isEmpty() ? part : glue ? text + part : text + " " + part;
        glue = false;
        if (text.length() > 100) return silent(n, 5, index, i);
      }
      open.remove(open.size() - 1);
      return text;
    }

    String silent(int n, int which, int rule, int item) {
      causes.add(0, new Cause(n, which, rule, item));
      return null;
    }
  }

  private List<Rule> rules(int language) { return language == 0 ? state.zero : state.one; }

  private String say(List<Rule> rules, int n) { return new Saying(rules).say(n, true); }

  private String say(int language, int n) { return say(rules(language), n); }

  private List<String> all(List<Rule> rules) {
    List<String> texts = new ArrayList<>();
    for (int n = 0; n <= state.limit; n++) texts.add(say(rules, n));
    return texts;
  }

  private List<String> all(int language) { return all(rules(language)); }

  private static int letters(String text) { return text.replace(" ", "").length(); }

  private static List<String> wordsOf(String text) {
    List<String> words = new ArrayList<>();
    for (String word : text.split(" ")) if (!word.isEmpty()) words.add(word);
    return words;
  }

  // ---- texts ----

  /** A token: 'w' a word, 'n' a number, another sign itself, '$' the end. */
  record Token(char kind, String text, int place) { }

  private static final class Fault extends RuntimeException {
    final int kind;
    final int place;
    Fault(int kind, int place) { this.kind = kind; this.place = place; }
  }

  private static List<Token> tokens(String text) {
    List<Token> tokens = new ArrayList<>();
    int i = 0;
    while (i < text.length()) {
      int start = i;
      char sign = text.charAt(i);
      if (sign == ' ') { i++; continue; }
      if (sign >= 'a' && sign <= 'z') {
        while (i < text.length() && text.charAt(i) >= 'a' && text.charAt(i) <= 'z') i++;
        tokens.add(new Token('w', text.substring(start, i), start));
      } else if (sign >= '0' && sign <= '9') {
        while (i < text.length() && text.charAt(i) >= '0' && text.charAt(i) <= '9') i++;
        tokens.add(new Token('n', text.substring(start, i), start));
      } else {
        i++;
        tokens.add(new Token("/%#-+~;".indexOf(sign) >= 0 ? sign : '?', "" + sign, start));
      }
    }
    tokens.add(new Token('$', "", text.length()));
    return tokens;
  }

  private static final class Parser {
    final List<Token> tokens;
    int at = 0;
    int language;
    final List<Rule> rules = new ArrayList<>();

    Parser(String text) { tokens = tokens(text); }

    Token next() { return tokens.get(at); }

    boolean is(String word) { return next().kind == 'w' && next().text.equals(word); }

    void want(boolean fine) {
      if (!fine) throw new Fault(1, next().place);
      at++;
    }

    int number(int least, int most) {
      Token token = next();
      want(token.kind == 'n');
      java.math.BigInteger value = new java.math.BigInteger(token.text);
      if (value.bitLength() > 31 || value.longValue() < least || value.longValue() > most) throw new Fault(2, token.place);
      return value.intValue();
    }

    void parse(List<List<Rule>> there) {
      want(is("language"));
      language = number(0, 1);
      want(next().kind == ';');
      int have = there.get(language).size();
      while (next().kind != '$') {
        Token say = next();
        want(is("say"));
        if (have + rules.size() == 30) throw new Fault(3, say.place);
        rule();
      }
    }

    void rule() {
      int from = number(0, 999_999_999);
      int to = from;
      int d = 1;
      int r = 0;
      if (is("to")) { at++; to = number(from, 999_999_999); }
      if (is("every")) { at++; d = number(1, 9999); r = number(0, d - 1); }
      want(is("as"));
      List<Token> signs = new ArrayList<>();
      List<Item> items = new ArrayList<>();
      while (next().kind != ';' || items.isEmpty()) {
        Token token = next();
        if ("w/%#-+~".indexOf(token.kind) < 0) throw new Fault(1, token.place);
        if (items.size() == 6) throw new Fault(3, token.place);
        if (token.kind == 'w' && token.text.length() > 8) throw new Fault(1, token.place);
        if (token.kind == '~' && (items.isEmpty() || signs.get(signs.size() - 1).kind == '~')) throw new Fault(4, token.place);
        at++;
        signs.add(token);
        if (token.kind == 'w') items.add(new Item('w', token.text.length(), token.text));
        else if (token.kind == '~') items.add(new Item('~', 0, ""));
        else items.add(new Item(token.kind, number(1, 999_999), ""));
      }
      Token last = signs.get(signs.size() - 1);
      if (last.kind == '~') throw new Fault(4, last.place);
      at++;
      rules.add(new Rule(from, to, d, r, items));
    }
  }

  private String tapeText(int n) {
    StringBuilder text = new StringBuilder();
    for (int i = 0; i < n; i++) text.append((char) (tape[i] & 255));
    return text.toString();
  }

  private int take(int n, boolean behind) {
    Parser parser = new Parser(tapeText(n));
    tape = new byte[0];
    try {
      parser.parse(behind ? List.of(state.zero, state.one) : List.of(List.of(), List.of()));
    } catch (Fault fault) {
      faultPlace = fault.place;
      return fault.kind - 10;
    }
    faultPlace = NONE;
    keep();
    List<Rule> rules = new ArrayList<>(behind ? rules(parser.language) : List.of());
    rules.addAll(parser.rules);
    put(parser.language, rules);
    return rules.size();
  }

  private void put(int language, List<Rule> rules) {
    state = language == 0 ? new State(state.limit, rules, state.one) : new State(state.limit, state.zero, rules);
  }

  private void keep() {
    past.addLast(state);
    if (past.size() > 12) past.removeFirst();
  }

  // ---- the face ----

  private void exist(boolean fine) {
    if (!fine) { missing++; throw new NoSuchElementException(); }
  }

  private void legal(boolean fine) {
    if (!fine) { wrong++; throw new IllegalArgumentException(); }
  }

  private void language(int language) { exist(language == 0 || language == 1); }

  private Rule theRule(int language, int rule) {
    language(language);
    exist(rule >= 0 && rule < rules(language).size());
    return rules(language).get(rule);
  }

  public int feed(int a, int b, int c, int d, int e) {
    if (tape.length + 20 > 400) return NONE;
    int old = tape.length;
    tape = Arrays.copyOf(tape, old + 20);
    java.nio.ByteBuffer.wrap(tape, old, 20).putInt(a).putInt(b).putInt(c).putInt(d).putInt(e);
    return tape.length;
  }

  public int text(int n) { legal(n >= 0 && n <= tape.length); return take(n, false); }

  public int more(int n) { legal(n >= 0 && n <= tape.length); return take(n, true); }

  public int fault() { return faultPlace; }

  public int limit(int v) {
    legal(v >= 1 && v <= 1000);
    keep();
    int old = state.limit;
    state = new State(v, state.zero, state.one);
    return old;
  }

  public int drop(int language, int rule) {
    theRule(language, rule);
    keep();
    List<Rule> rules = new ArrayList<>(rules(language));
    rules.remove(rule);
    put(language, rules);
    return rules.size();
  }

  public int rise(int language, int rule) {
    theRule(language, rule);
    legal(rule != 0);
    List<String> before = all(language);
    keep();
    List<Rule> rules = new ArrayList<>(rules(language));
    Collections.swap(rules, rule, rule - 1);
    put(language, rules);
    List<String> now = all(language);
    int many = 0;
    for (int n = 0; n <= state.limit; n++) if (!java.util.Objects.equals(before.get(n), now.get(n))) many++;
    return many;
  }

  public int undo() {
    if (past.isEmpty()) return NONE;
    state = past.removeLast();
    return past.size();
  }

  public int told(int what) {
    legal(what >= 0 && what <= 4);
    return new int[] {state.limit, tape.length, past.size(), state.zero.size(), state.one.size()}[what];
  }

  public int rule(int language, int rule, int what) {
    Rule it = theRule(language, rule);
    legal(what >= 0 && what <= 5);
    int first = 0;
    for (int n = 0; n <= state.limit; n++) if (firstFit(language, n) == rule) first++;
    return new int[] {it.from, it.to, it.d, it.r, it.items.size(), first}[what];
  }

  private int firstFit(int language, int n) {
    for (int i = 0; i < rules(language).size(); i++) if (rules(language).get(i).fits(n)) return i;
    return NONE;
  }

  public int item(int language, int rule, int item, int what) {
    Rule it = theRule(language, rule);
    exist(item >= 0 && item < it.items.size());
    legal(what == 0 || what == 1);
    return what == 0 ? "w/%#-+~".indexOf(it.items.get(item).sign) : it.items.get(item).value;
  }

  public int fits(int language, int n) {
    language(language);
    legal(n >= 0 && n <= 999_999_999);
    return firstFit(language, n);
  }

  public int said(int language, int n, int what) {
    language(language);
    legal(what >= 0 && what <= 2);
    String text = say(language, n);
    if (text == null) return NONE;
    return what == 0 ? text.length() : what == 1 ? wordsOf(text).size() : letters(text);
  }

  public int at(int language, int n, int k) {
    language(language);
    String text = say(language, n);
    return text == null || k < 0 || k >= text.length() ? NONE : text.charAt(k);
  }

  public int asked(int language, int n) {
    language(language);
    Saying saying = new Saying(rules(language));
    return saying.say(n, true) == null ? NONE : saying.asks;
  }

  private List<Cause> causesOf(int language, int n) {
    Saying saying = new Saying(rules(language));
    saying.say(n, true);
    return saying.causes;
  }

  public int causes(int language, int n) { language(language); return causesOf(language, n).size(); }

  public int cause(int language, int n, int k, int what) {
    language(language);
    List<Cause> causes = causesOf(language, n);
    exist(k >= 0 && k < causes.size());
    legal(what >= 0 && what <= 3);
    Cause it = causes.get(k);
    return new int[] {it.n, it.which, it.rule, it.item}[what];
  }

  public int silent(int language, int what) {
    language(language);
    legal(what >= 0 && what <= 4);
    List<String> all = all(language);
    int many = 0;
    List<int[]> gaps = new ArrayList<>();
    for (int n = 0; n <= state.limit; n++) {
      if (all.get(n) != null) continue;
      many++;
      if (n == 0 || all.get(n - 1) != null) gaps.add(new int[] {n, 0});
      gaps.get(gaps.size() - 1)[1]++;
    }
    int[] best = {NONE, 0};
    for (int[] gap : gaps) if (gap[1] > best[1]) best = gap;
    return new int[] {many, gaps.isEmpty() ? NONE : gaps.get(0)[0], gaps.size(), best[1], best[0]}[what];
  }

  public int alike(int language, int what) {
    language(language);
    legal(what >= 0 && what <= 3);
    List<String> all = all(language);
    int many = 0;
    int least = NONE;
    int next = NONE;
    java.util.Set<String> unlike = new java.util.HashSet<>();
    for (int n = 0; n <= state.limit; n++) {
      String text = all.get(n);
      if (text == null) continue;
      unlike.add(text);
      if (Collections.frequency(all, text) < 2) continue;
      many++;
      if (least == NONE) {
        least = n;
        next = n + 1 + all.subList(n + 1, all.size()).indexOf(text);
      }
    }
    return new int[] {many, least, next, unlike.size()}[what];
  }

  private static List<Integer> readOf(List<String> all, String text) {
    List<Integer> numbers = new ArrayList<>();
    for (int n = 0; n < all.size(); n++) if (text.equals(all.get(n))) numbers.add(n);
    return numbers;
  }

  public int read(int language, int n, int what) {
    language(language);
    legal(n >= 0 && n <= tape.length && what >= 0 && what <= 2);
    List<Integer> numbers = readOf(all(language), tapeText(n));
    if (what == 0) return numbers.size();
    return numbers.isEmpty() ? NONE : numbers.get(what == 1 ? 0 : numbers.size() - 1);
  }

  private List<String> hearable(int n) {
    legal(n >= 1 && n <= tape.length);
    String text = tapeText(n);
    legal(text.matches("[a-z ]*"));
    List<String> words = wordsOf(text);
    legal(words.size() <= 40);
    return words;
  }

  private static String join(List<String> words, int from, int to) { return String.join(" ", words.subList(from, to)); }

  private Map<String, List<Integer>> readings(int language) {
    Map<String, List<Integer>> readings = new HashMap<>();
    List<String> all = all(language);
    for (int n = 0; n < all.size(); n++) {
      if (all.get(n) != null) readings.computeIfAbsent(all.get(n), key -> new ArrayList<>()).add(n);
    }
    return readings;
  }

  /** The way: pairs of number and words; null if there is none. By lengths of stretches, all tried in due order. */
  private static List<int[]> theWay(List<String> words, Map<String, List<Integer>> readings) {
    for (int many = 0; many <= words.size(); many++) {
      List<int[]> way = wayOf(words, 0, many, readings, new java.util.HashSet<>());
      if (way != null) return way;
    }
    return null;
  }

  private static List<int[]> wayOf(List<String> words, int from, int many, Map<String, List<Integer>> readings,
      java.util.Set<Integer> dead) {
    if (from == words.size()) return many == 0 ? new ArrayList<>() : null;
    if (many == 0 || !dead.add(from * 100 + many)) return null;
    for (int to = words.size(); to > from; to--) {
      List<Integer> numbers = readings.get(join(words, from, to));
      if (numbers == null) continue;
      List<int[]> rest = wayOf(words, to, many - 1, readings, dead);
      if (rest == null) continue;
      rest.add(0, new int[] {numbers.get(0), to - from});
      return rest;
    }
    return null;
  }

  public int ways(int language, int n, int what) {
    language(language);
    List<String> words = hearable(n);
    legal(what >= 0 && what <= 2);
    Map<String, List<Integer>> readings = readings(language);
    if (what == 0) {
      java.math.BigInteger[] ways = new java.math.BigInteger[words.size() + 1];
      ways[0] = java.math.BigInteger.ONE;
      for (int to = 1; to <= words.size(); to++) {
        ways[to] = java.math.BigInteger.ZERO;
        for (int from = 0; from < to; from++) {
          int many = readings.getOrDefault(join(words, from, to), List.of()).size();
          ways[to] = ways[to].add(ways[from].multiply(java.math.BigInteger.valueOf(many)));
        }
      }
      return ways[words.size()].min(java.math.BigInteger.valueOf(1_000_000_000)).intValue();
    }
    List<int[]> way = theWay(words, readings);
    if (way == null) return NONE;
    int sum = 0;
    for (int[] stretch : way) sum += stretch[0];
    return what == 1 ? way.size() : sum;
  }

  public int way(int language, int n, int k, int what) {
    language(language);
    List<String> words = hearable(n);
    List<int[]> way = theWay(words, readings(language));
    exist(way != null && k >= 0 && k < way.size());
    legal(what == 0 || what == 1);
    return way.get(k)[what];
  }

  public int stretches(int language, int n) {
    language(language);
    List<String> words = hearable(n);
    Map<String, List<Integer>> readings = readings(language);
    int many = 0;
    for (int from = 0; from < words.size(); from++) {
      for (int to = from + 1; to <= words.size(); to++) if (readings.containsKey(join(words, from, to))) many++;
    }
    return many;
  }

  public int heard(int language, int n) {
    language(language);
    String text = say(1 - language, n);
    return text == null ? NONE : readOf(all(language), text).size();
  }

  public int same() {
    int many = 0;
    for (int n = 0; n <= state.limit; n++) {
      String text = say(0, n);
      if (text != null && text.equals(say(1, n))) many++;
    }
    return many;
  }

  public int order(int language, int k) {
    language(language);
    List<String> all = all(language);
    List<Integer> numbers = new ArrayList<>();
    for (int n = 0; n <= state.limit; n++) if (all.get(n) != null) numbers.add(n);
    numbers.sort(Comparator.comparing((Integer n) -> all.get(n)).thenComparing(n -> n));
    return k >= 0 && k < numbers.size() ? numbers.get(k) : NONE;
  }

  public int longest(int language, int what) {
    language(language);
    legal(what == 0 || what == 1);
    List<String> all = all(language);
    int best = NONE;
    for (int n = 0; n <= state.limit; n++) {
      if (all.get(n) == null) continue;
      int more = best == NONE ? 0 : all.get(n).length() - all.get(best).length();
      if (best == NONE || (what == 0 ? more > 0 : more < 0)) best = n;
    }
    return best;
  }

  public int chain(int language, int n, int what) {
    language(language);
    legal(what >= 0 && what <= 2);
    List<Integer> chain = new ArrayList<>();
    int next = n;
    while (say(language, next) != null && !chain.contains(next)) {
      chain.add(next);
      next = letters(say(language, next));
    }
    if (what == 0) return chain.size();
    if (what == 1) return chain.isEmpty() ? NONE : chain.get(chain.size() - 1);
    return chain.contains(next) ? next : NONE;
  }

  public int fixed(int language) {
    language(language);
    int many = 0;
    for (int n = 0; n <= state.limit; n++) {
      String text = say(language, n);
      if (text != null && letters(text) == n) many++;
    }
    return many;
  }

  public int words(int language, int what) {
    language(language);
    legal(what >= 0 && what <= 2);
    TreeMap<String, Integer> times = new TreeMap<>();
    for (String text : all(language)) {
      if (text != null) for (String word : wordsOf(text)) times.merge(word, 1, Integer::sum);
    }
    String best = "";
    int most = 0;
    for (Map.Entry<String, Integer> entry : times.entrySet()) {
      if (entry.getValue() > most) { most = entry.getValue(); best = entry.getKey(); }
    }
    return what == 0 ? times.size() : what == 1 ? most : best.length();
  }

  public int needless(int language) {
    language(language);
    List<String> all = all(language);
    int bits = 0;
    for (int i = 0; i < rules(language).size(); i++) {
      List<Rule> rules = new ArrayList<>(rules(language));
      rules.remove(i);
      if (all(rules).equals(all)) bits |= 1 << i;
    }
    return bits;
  }

  public long print(int language) {
    language(language);
    long print = 0;
    for (String text : all(language)) print = 31 * print + (text == null ? 1 : text.chars().sum());
    return print;
  }

  public int status(int what) { return what == 0 ? missing : what == 1 ? wrong : NONE; }
}
