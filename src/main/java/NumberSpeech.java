import java.util.Arrays;
import java.util.NoSuchElementException;

/** Numbers said by rules, in two languages: see DOC.md, whose promises this class keeps. */
public final class NumberSpeech {
    public static final int NONE = -1;

    private static final int LANGUAGES = 2;
    private static final int MOST_RULES = 30;
    private static final int MOST_ITEMS = 6;
    private static final int MOST_LETTERS = 8;
    private static final int MOST_DIVISOR = 9_999;
    private static final int MOST_K = 999_999;
    private static final int TOP = 999_999_999;
    private static final int MOST_LIMIT = 1_000;
    private static final int FIRST_LIMIT = 100;
    private static final int MOST_TAPE = 400;
    private static final int FEED_BYTES = 20;
    private static final int MOST_BYTES = 100;
    private static final int MOST_OPEN = 30;
    private static final int MOST_ASKS = 1_000;
    private static final int MOST_UNDO = 12;
    private static final int MOST_WORDS = 40;
    // any number, then 0 to 100 letters; and one more turn, that finds what comes again
    private static final int MOST_CHAIN = MOST_BYTES + 3;
    private static final long HELD = 1_000_000_000L;
    private static final int BLANK = 32;

    // kinds of ITEMS, as item() answers them
    private static final int WORD = 0;
    private static final int QUOTIENT = 1;
    private static final int REST = 2;
    private static final int REST_OR_ZERO = 3;
    private static final int LESS = 4;
    private static final int AND = 5;
    private static final int GLUE = 6;

    // why a number is SILENT, as cause() answers it
    private static final int ASKS_SILENT = 0;
    private static final int NO_RULE = 1;
    private static final int NO_NUMBER = 2;
    private static final int ASKS_ITSELF = 3;
    private static final int TOO_DEEP = 4;
    private static final int TOO_LONG = 5;
    private static final int TOO_MANY = 6;

    // FAULTS of a text
    private static final int MISPLACED = 1;
    private static final int BAD_NUMBER = 2;
    private static final int ONE_TOO_MANY = 3;
    private static final int BAD_GLUE = 4;
    private static final int FAULT_BASE = 10;

    private final Tape tape = new Tape();
    private final Book book = new Book();
    private final History history = new History();
    private final TextReader reader = new TextReader();
    private final Ranking rankingZero = new Ranking();
    private final Ranking rankingOne = new Ranking();
    // says what would be said by other rules, so that the voices keep what they know
    private final Voice trial = new Voice();
    private final WordCount wordCount = new WordCount();
    private final Chart chart = new Chart();
    private final int[] links = new int[MOST_CHAIN];
    private int faultPlace = NONE;
    private int missing = 0;
    private int wrong = 0;

    public NumberSpeech() {
    }

    // ---- the tape and its texts ----

    public int feed(int a, int b, int c, int d, int e) {
        if (tape.size > MOST_TAPE - FEED_BYTES) {
            return NONE;
        }
        tape.put(a);
        tape.put(b);
        tape.put(c);
        tape.put(d);
        tape.put(e);
        return tape.size;
    }

    public int text(int n) throws IllegalArgumentException {
        wantBetween(n, 0, tape.size);
        return takeText(n, false);
    }

    public int fault() {
        return faultPlace;
    }

    public int more(int n) throws IllegalArgumentException {
        wantBetween(n, 0, tape.size);
        return takeText(n, true);
    }

    private int takeText(int n, boolean behind) {
        boolean fine = reader.takes(tape.bytes, n, book, behind);
        tape.size = 0;
        faultPlace = reader.faultPlace;
        if (!fine) {
            return reader.faultKind - FAULT_BASE;
        }
        history.keep(book);
        int language = reader.language;
        if (!behind) {
            book.clear(language);
        }
        for (int i = 0; i < reader.ruleCount && i < MOST_RULES; i++) {
            book.append(language, reader.rules[i]);
        }
        learn(language);
        return book.countOf(language);
    }

    // ---- what changes the rules ----

    public int limit(int v) throws IllegalArgumentException {
        wantBetween(v, 1, MOST_LIMIT);
        int before = book.highest;
        history.keep(book);
        book.highest = v;
        return before;
    }

    public int drop(int language, int rule) throws NoSuchElementException {
        wantRule(language, rule);
        history.keep(book);
        book.remove(language, rule);
        learn(language);
        return book.countOf(language);
    }

    public int rise(int language, int rule) throws NoSuchElementException, IllegalArgumentException {
        wantRule(language, rule);
        wantBetween(rule, 1, MOST_RULES);
        history.keep(book);
        book.lift(language, rule);
        trial.learn(book, language, NONE);
        int changed = trial.differences(voiceOf(language), book.highest, MOST_LIMIT + 1);
        learn(language);
        return changed;
    }

    public int undo() {
        if (history.size == 0) {
            return NONE;
        }
        history.takeBack(book);
        for (int language = 0; language < LANGUAGES; language++) {
            learn(language);
        }
        return history.size;
    }

    private void learn(int language) {
        Ranking ranking = rankingOf(language);
        ranking.voice.learn(book, language, NONE);
        ranking.forget();
    }

    // ---- what there is ----

    public int told(int what) throws IllegalArgumentException {
        wantBetween(what, 0, 4);
        switch (what) {
            case 0:
                return book.highest;
            case 1:
                return tape.size;
            case 2:
                return history.size;
            case 3:
                return book.countOf(0);
            default:
                return book.countOf(1);
        }
    }

    public int rule(int language, int rule, int what) throws NoSuchElementException, IllegalArgumentException {
        Rule asked = wantRule(language, rule);
        wantBetween(what, 0, 5);
        switch (what) {
            case 0:
                return asked.from;
            case 1:
                return asked.to;
            case 2:
                return asked.divisor;
            case 3:
                return asked.rest;
            case 4:
                return asked.size();
            default:
                return voiceOf(language).countFirstFits(rule, book.highest);
        }
    }

    public int item(int language, int rule, int item, int what) throws NoSuchElementException, IllegalArgumentException {
        Rule asked = wantRule(language, rule);
        wantPart(item, asked.size());
        wantBetween(what, 0, 1);
        return what == 0 ? asked.kindOf(item) : asked.valueOf(item);
    }

    public int fits(int language, int n) throws NoSuchElementException, IllegalArgumentException {
        wantLanguage(language);
        wantBetween(n, 0, TOP);
        return voiceOf(language).firstFit(n);
    }

    // ---- one number ----

    public int said(int language, int n, int what) throws NoSuchElementException, IllegalArgumentException {
        wantLanguage(language);
        wantBetween(what, 0, 2);
        Voice voice = voiceOf(language);
        if (!voice.says(n)) {
            return NONE;
        }
        switch (what) {
            case 0:
                return voice.memo.lengthOf(n);
            case 1:
                return voice.memo.wordsOf(n);
            default:
                return voice.memo.lettersOf(n);
        }
    }

    public int at(int language, int n, int k) throws NoSuchElementException {
        wantLanguage(language);
        Voice voice = voiceOf(language);
        return voice.says(n) ? voice.memo.byteOf(n, k) : NONE;
    }

    public int asked(int language, int n) throws NoSuchElementException {
        wantLanguage(language);
        Voice voice = voiceOf(language);
        return voice.says(n) ? voice.memo.asksOf(n) : NONE;
    }

    public int causes(int language, int n) throws NoSuchElementException {
        wantLanguage(language);
        return voiceOf(language).traceCauses(n);
    }

    public int cause(int language, int n, int k, int what) throws NoSuchElementException, IllegalArgumentException {
        wantLanguage(language);
        Voice voice = voiceOf(language);
        wantPart(k, voice.traceCauses(n));
        wantBetween(what, 0, 3);
        return voice.causes.answer(k, what);
    }

    // ---- all the numbers up to the limit ----

    public int silent(int language, int what) throws NoSuchElementException, IllegalArgumentException {
        wantLanguage(language);
        wantBetween(what, 0, 4);
        Voice voice = voiceOf(language);
        int many = 0;
        int first = NONE;
        int gaps = 0;
        int longestGap = 0;
        int longestFrom = NONE;
        int run = 0;
        for (int n = 0; n <= book.highest; n++) {
            if (voice.says(n)) {
                run = 0;
                continue;
            }
            many++;
            run++;
            if (first == NONE) {
                first = n;
            }
            if (run == 1) {
                gaps++;
            }
            if (run > longestGap) {
                longestGap = run;
                longestFrom = n - run + 1;
            }
        }
        switch (what) {
            case 0:
                return many;
            case 1:
                return first;
            case 2:
                return gaps;
            case 3:
                return longestGap;
            default:
                return longestFrom;
        }
    }

    public int alike(int language, int what) throws NoSuchElementException, IllegalArgumentException {
        wantLanguage(language);
        wantBetween(what, 0, 3);
        Ranking ranking = rankingOf(language).prepared(book.highest);
        ranking.group();
        switch (what) {
            case 0:
                return ranking.alikeCount;
            case 1:
                return ranking.alikeLeast;
            case 2:
                return ranking.alikeNext;
            default:
                return ranking.unlikeCount;
        }
    }

    public int read(int language, int n, int what) throws NoSuchElementException, IllegalArgumentException {
        wantLanguage(language);
        wantBetween(n, 0, tape.size);
        wantBetween(what, 0, 2);
        Ranking ranking = rankingOf(language).prepared(book.highest);
        int many = ranking.find(tape.bytes, 0, n);
        switch (what) {
            case 0:
                return many;
            case 1:
                return ranking.firstFound();
            default:
                return ranking.lastFound();
        }
    }

    public int ways(int language, int n, int what) throws NoSuchElementException, IllegalArgumentException {
        wantLanguage(language);
        wantHearable(n);
        wantBetween(what, 0, 2);
        chart.weigh(rankingOf(language).prepared(book.highest));
        switch (what) {
            case 0:
                return chart.waysInAll();
            case 1:
                return chart.stretchesOfTheWay();
            default:
                return chart.sumOfTheWay();
        }
    }

    public int way(int language, int n, int k, int what) throws NoSuchElementException, IllegalArgumentException {
        wantLanguage(language);
        wantHearable(n);
        chart.weigh(rankingOf(language).prepared(book.highest));
        wantPart(k, chart.stretchesOfTheWay());
        wantBetween(what, 0, 1);
        return chart.stretchOfTheWay(k, what);
    }

    public int stretches(int language, int n) throws NoSuchElementException, IllegalArgumentException {
        wantLanguage(language);
        wantHearable(n);
        chart.weigh(rankingOf(language).prepared(book.highest));
        return chart.heardStretches;
    }

    public int heard(int language, int n) throws NoSuchElementException {
        wantLanguage(language);
        Voice other = voiceOf(LANGUAGES - 1 - language);
        if (!other.says(n)) {
            return NONE;
        }
        Memo memo = other.memo;
        return rankingOf(language).prepared(book.highest).find(memo.bytes, memo.startOf(n), memo.lengthOf(n));
    }

    public int same() {
        Voice zero = rankingZero.voice;
        Voice one = rankingOne.voice;
        int many = 0;
        for (int n = 0; n <= book.highest; n++) {
            if (zero.says(n) && one.says(n) && zero.memo.isLike(one.memo, n)) {
                many++;
            }
        }
        return many;
    }

    public int order(int language, int k) throws NoSuchElementException {
        wantLanguage(language);
        return rankingOf(language).prepared(book.highest).numberAt(k);
    }

    public int longest(int language, int what) throws NoSuchElementException, IllegalArgumentException {
        wantLanguage(language);
        wantBetween(what, 0, 1);
        Voice voice = voiceOf(language);
        int best = NONE;
        int bestLength = 0;
        for (int n = 0; n <= book.highest; n++) {
            if (!voice.says(n)) {
                continue;
            }
            int length = voice.memo.lengthOf(n);
            boolean better = what == 0 ? length > bestLength : length < bestLength;
            if (best == NONE || better) {
                best = n;
                bestLength = length;
            }
        }
        return best;
    }

    public int chain(int language, int n, int what) throws NoSuchElementException, IllegalArgumentException {
        wantLanguage(language);
        wantBetween(what, 0, 2);
        Voice voice = voiceOf(language);
        int many = 0;
        int next = n;
        int again = NONE;
        for (int i = 0; i < MOST_CHAIN && again == NONE && voice.says(next); i++) {
            if (isLink(next, i)) {
                again = next;
            } else {
                links[i] = next;
                many = i + 1;
                next = voice.memo.lettersOf(next);
            }
        }
        switch (what) {
            case 0:
                return many;
            case 1:
                return many > 0 && many <= MOST_CHAIN ? links[many - 1] : NONE;
            default:
                return again;
        }
    }

    private boolean isLink(int n, int many) {
        for (int i = 0; i < many && i < MOST_CHAIN; i++) {
            if (links[i] == n) {
                return true;
            }
        }
        return false;
    }

    public int fixed(int language) throws NoSuchElementException {
        wantLanguage(language);
        Voice voice = voiceOf(language);
        int many = 0;
        for (int n = 0; n <= book.highest; n++) {
            if (voice.says(n) && voice.memo.lettersOf(n) == n) {
                many++;
            }
        }
        return many;
    }

    public int words(int language, int what) throws NoSuchElementException, IllegalArgumentException {
        wantLanguage(language);
        wantBetween(what, 0, 2);
        wordCount.countAll(voiceOf(language), book.highest);
        switch (what) {
            case 0:
                return wordCount.unlike;
            case 1:
                return wordCount.mostTimes();
            default:
                return wordCount.lettersOfMost();
        }
    }

    public int needless(int language) throws NoSuchElementException {
        wantLanguage(language);
        Voice voice = voiceOf(language);
        voice.sayAll(book.highest);
        int bits = 0;
        for (int rule = 0; rule < book.countOf(language); rule++) {
            boolean needed = false;
            if (voice.hasUsed(rule)) {
                trial.learn(book, language, rule);
                needed = trial.differences(voice, book.highest, 1) > 0;
            }
            if (!needed) {
                bits |= 1 << rule;
            }
        }
        return bits;
    }

    public long print(int language) throws NoSuchElementException {
        wantLanguage(language);
        Voice voice = voiceOf(language);
        long print = 0;
        for (int n = 0; n <= book.highest; n++) {
            print = 31 * print + (voice.says(n) ? voice.memo.sumOf(n) : 1);
        }
        return print;
    }

    public int status(int what) {
        if (what == 0) {
            return missing;
        }
        return what == 1 ? wrong : NONE;
    }

    private Ranking rankingOf(int language) {
        return language == 0 ? rankingZero : rankingOne;
    }

    private Voice voiceOf(int language) {
        return language == 0 ? rankingZero.voice : rankingOne.voice;
    }

    // ---- refusals ----

    private void wantLanguage(int language) throws NoSuchElementException {
        wantPart(language, LANGUAGES);
    }

    private Rule wantRule(int language, int rule) throws NoSuchElementException {
        wantLanguage(language);
        Rule found = book.ruleOf(language, rule);
        if (found == null) {
            missing++;
            throw new NoSuchElementException("no such rule");
        }
        return found;
    }

    private void wantPart(int k, int many) throws NoSuchElementException {
        if (k < 0 || k >= many) {
            missing++;
            throw new NoSuchElementException("no such language, rule, item, cause or stretch");
        }
    }

    private void wantBetween(int value, int least, int most) throws IllegalArgumentException {
        if (value < least || value > most) {
            wrong++;
            throw new IllegalArgumentException("an argument out of its range");
        }
    }

    private void wantHearable(int n) throws IllegalArgumentException {
        wantBetween(n, 1, tape.size);
        if (!chart.splits(tape.bytes, n)) {
            wrong++;
            throw new IllegalArgumentException("a text that can't be heard");
        }
    }

    // ---- bytes ----

    private static boolean isLetter(int sign) {
        return sign >= 'a' && sign <= 'z';
    }

    private static boolean isDigit(int sign) {
        return sign >= '0' && sign <= '9';
    }

    private static void copyBytes(byte[] source, int from, byte[] target, int to, int many) {
        if (many > 0 && from >= 0 && to >= 0 && from <= source.length - many && to <= target.length - many) {
            System.arraycopy(source, from, target, to, many);
        }
    }

    /** Below 0: the first text comes ahead; 0: they are the same. */
    private static int compareBytes(byte[] a, int aStart, int aLength, byte[] b, int bStart, int bLength) {
        if (aStart < 0 || bStart < 0 || aStart > a.length - aLength || bStart > b.length - bLength) {
            return 0;
        }
        int common = Math.min(aLength, bLength);
        for (int i = 0; i < common; i++) {
            int difference = (a[aStart + i] & 255) - (b[bStart + i] & 255);
            if (difference != 0) {
                return difference;
            }
        }
        return aLength - bLength;
    }

    // ---- what the object is made of ----

    /** The bytes that were fed and not yet taken. */
    private static final class Tape {
        final byte[] bytes = new byte[MOST_TAPE];
        int size = 0;

        void put(int four) {
            for (int shift = 24; shift >= 0; shift -= 8) {
                if (size >= 0 && size < bytes.length) {
                    bytes[size] = (byte) (four >>> shift);
                    size++;
                }
            }
        }
    }

    /** A RULE. It never changes, so that books may share it. */
    private static final class Rule {
        final int from;
        final int to;
        final int divisor;
        final int rest;
        private final int[] kinds;
        private final int[] values;
        // of each WORD its letters in one number, the first one lowest
        private final long[] letters;

        Rule(int[] range, int many, int[] kinds, int[] values, long[] letters) {
            boolean whole = range.length >= 4;
            this.from = whole ? range[0] : 0;
            this.to = whole ? range[1] : 0;
            this.divisor = whole ? range[2] : 1;
            this.rest = whole ? range[3] : 0;
            int size = Math.max(0, Math.min(many, MOST_ITEMS));
            this.kinds = Arrays.copyOf(kinds, size);
            this.values = Arrays.copyOf(values, size);
            this.letters = Arrays.copyOf(letters, size);
        }

        int size() {
            return kinds.length;
        }

        boolean covers(int n) {
            return n >= from && n <= to && divisor > 0 && n % divisor == rest;
        }

        int kindOf(int item) {
            return item >= 0 && item < kinds.length ? kinds[item] : NONE;
        }

        int valueOf(int item) {
            return item >= 0 && item < values.length ? values[item] : NONE;
        }

        int letterOf(int item, int k) {
            if (item < 0 || item >= letters.length || k < 0 || k >= MOST_LETTERS) {
                return BLANK;
            }
            return (int) (letters[item] >>> (8 * k)) & 255;
        }

        boolean asksNothing(int item, int n) {
            int k = valueOf(item);
            return kindOf(item) == REST && k > 0 && n % k == 0;
        }

        int numberAsked(int item, int n) {
            int k = valueOf(item);
            if (k < 1) {
                return NONE;
            }
            switch (kindOf(item)) {
                case QUOTIENT:
                    return n / k;
                case REST:
                case REST_OR_ZERO:
                    return n % k;
                case LESS:
                    return n - k;
                default:
                    return n + k;
            }
        }
    }

    /** The RULES of both LANGUAGES and the LIMIT: all that can be taken back. */
    private static final class Book {
        private final Rule[] rules = new Rule[LANGUAGES * MOST_RULES];
        private final int[] counts = new int[LANGUAGES];
        int highest = FIRST_LIMIT;

        int countOf(int language) {
            return language >= 0 && language < counts.length ? counts[language] : 0;
        }

        Rule ruleOf(int language, int rule) {
            if (rule < 0 || rule >= countOf(language)) {
                return null;
            }
            int place = language * MOST_RULES + rule;
            return place < rules.length ? rules[place] : null;
        }

        void clear(int language) {
            if (language >= 0 && language < counts.length) {
                counts[language] = 0;
            }
        }

        void append(int language, Rule rule) {
            int count = countOf(language);
            if (language >= 0 && language < counts.length && count < MOST_RULES) {
                rules[language * MOST_RULES + count] = rule;
                counts[language] = count + 1;
            }
        }

        void remove(int language, int rule) {
            int count = countOf(language);
            if (rule < 0 || rule >= count || count > MOST_RULES) {
                return;
            }
            int base = language * MOST_RULES;
            for (int i = rule; i + 1 < count; i++) {
                rules[base + i] = rules[base + i + 1];
            }
            counts[language] = count - 1;
        }

        void lift(int language, int rule) {
            if (rule < 1 || rule >= countOf(language)) {
                return;
            }
            int place = language * MOST_RULES + rule;
            Rule lifted = rules[place];
            rules[place] = rules[place - 1];
            rules[place - 1] = lifted;
        }

        void copyFrom(Book other) {
            for (int i = 0; i < rules.length && i < other.rules.length; i++) {
                rules[i] = other.rules[i];
            }
            for (int i = 0; i < counts.length && i < other.counts.length; i++) {
                counts[i] = other.counts[i];
            }
            highest = other.highest;
        }
    }

    /** The books as they were ahead of the latest changes. */
    private static final class History {
        private final Book[] books = new Book[MOST_UNDO];
        private int next = 0;
        int size = 0;

        History() {
            for (int i = 0; i < books.length; i++) {
                books[i] = new Book();
            }
        }

        void keep(Book book) {
            Book place = bookAt(next);
            if (place != null) {
                place.copyFrom(book);
            }
            next = next + 1 < MOST_UNDO ? next + 1 : 0;
            size = Math.min(size + 1, MOST_UNDO);
        }

        void takeBack(Book book) {
            next = next > 0 ? next - 1 : MOST_UNDO - 1;
            size = Math.max(size - 1, 0);
            Book place = bookAt(next);
            if (place != null) {
                book.copyFrom(place);
            }
        }

        private Book bookAt(int place) {
            return place >= 0 && place < books.length ? books[place] : null;
        }
    }

    /** Reads the RULES of a TEXT, up to its first FAULT. */
    private static final class TextReader {
        final Rule[] rules = new Rule[MOST_RULES];
        int ruleCount = 0;
        int language = 0;
        int faultKind = 0;
        int faultPlace = NONE;
        private byte[] bytes = new byte[0];
        private int length = 0;
        private int place = 0;
        private int number = 0;
        private final int[] range = new int[4];
        private int itemCount = 0;
        private final int[] kinds = new int[MOST_ITEMS];
        private final int[] values = new int[MOST_ITEMS];
        private final long[] letters = new long[MOST_ITEMS];

        boolean takes(byte[] source, int many, Book book, boolean behind) {
            bytes = source;
            length = Math.max(0, Math.min(many, source.length));
            place = 0;
            ruleCount = 0;
            faultKind = 0;
            faultPlace = NONE;
            if (!readsHead()) {
                return false;
            }
            int room = behind ? MOST_RULES - book.countOf(language) : MOST_RULES;
            for (int i = 0; i <= MOST_RULES; i++) {
                skipBlanks();
                if (place >= length) {
                    return true;
                }
                if (!readsSay(room) || !readsRange() || !readsItems()) {
                    return false;
                }
                keepRule();
            }
            return true;
        }

        private boolean readsHead() {
            if (!passes("language")) {
                return fails(MISPLACED, place);
            }
            if (!readsNumber(0, LANGUAGES - 1)) {
                return false;
            }
            language = number;
            skipBlanks();
            if (signHere() != ';') {
                return fails(MISPLACED, place);
            }
            place++;
            return true;
        }

        private boolean readsSay(int room) {
            int start = place;
            if (!passes("say")) {
                return fails(MISPLACED, start);
            }
            return ruleCount < room || fails(ONE_TOO_MANY, start);
        }

        private void keepRule() {
            if (ruleCount >= 0 && ruleCount < MOST_RULES) {
                rules[ruleCount] = new Rule(range, itemCount, kinds, values, letters);
                ruleCount++;
            }
        }

        private boolean readsRange() {
            if (!readsNumber(0, TOP)) {
                return false;
            }
            range[0] = number;
            if (passes("to") && !readsNumber(range[0], TOP)) {
                return false;
            }
            range[1] = number;
            range[2] = 1;
            range[3] = 0;
            if (passes("every")) {
                if (!readsNumber(1, MOST_DIVISOR)) {
                    return false;
                }
                range[2] = number;
                if (!readsNumber(0, range[2] - 1)) {
                    return false;
                }
                range[3] = number;
            }
            return passes("as") || fails(MISPLACED, place);
        }

        private boolean readsItems() {
            itemCount = 0;
            int glueAt = NONE;
            for (int i = 0; i <= MOST_ITEMS; i++) {
                skipBlanks();
                int start = place;
                if (signHere() == ';' && itemCount > 0) {
                    place++;
                    return glueAt == NONE || fails(BAD_GLUE, glueAt);
                }
                int kind = kindHere();
                if (kind == NONE) {
                    return fails(MISPLACED, start);
                }
                if (itemCount >= MOST_ITEMS) {
                    return fails(ONE_TOO_MANY, start);
                }
                if (kind == GLUE && (itemCount == 0 || glueAt != NONE)) {
                    return fails(BAD_GLUE, start);
                }
                glueAt = kind == GLUE ? start : NONE;
                if (!readsItem(kind)) {
                    return false;
                }
            }
            return fails(ONE_TOO_MANY, place);
        }

        private boolean readsItem(int kind) {
            int value = 0;
            long packed = 0;
            if (kind == WORD) {
                int end = wordEnd();
                value = end - place;
                if (value > MOST_LETTERS) {
                    return fails(MISPLACED, place);
                }
                for (int i = value - 1; i >= 0; i--) {
                    packed = packed << 8 | byteAt(place + i);
                }
                place = end;
            } else {
                place++;
                if (kind != GLUE && !readsNumber(1, MOST_K)) {
                    return false;
                }
                value = kind == GLUE ? 0 : number;
            }
            if (itemCount >= 0 && itemCount < MOST_ITEMS) {
                kinds[itemCount] = kind;
                values[itemCount] = value;
                letters[itemCount] = packed;
                itemCount++;
            }
            return true;
        }

        private int kindHere() {
            int sign = signHere();
            switch (sign) {
                case '/':
                    return QUOTIENT;
                case '%':
                    return REST;
                case '#':
                    return REST_OR_ZERO;
                case '-':
                    return LESS;
                case '+':
                    return AND;
                case '~':
                    return GLUE;
                default:
                    return isLetter(sign) ? WORD : NONE;
            }
        }

        private boolean readsNumber(int least, int most) {
            skipBlanks();
            int start = place;
            long value = 0;
            while (place < length && isDigit(byteAt(place))) {
                // digits beyond the highest number change nothing: it is none such already
                if (value <= TOP) {
                    value = 10 * value + byteAt(place) - '0';
                }
                place++;
            }
            if (place == start) {
                return fails(MISPLACED, start);
            }
            if (value < least || value > most) {
                return fails(BAD_NUMBER, start);
            }
            number = (int) value;
            return true;
        }

        /** Goes past this word if it stands here, whole. */
        private boolean passes(String word) {
            skipBlanks();
            int end = wordEnd();
            if (end - place != word.length()) {
                return false;
            }
            for (int i = 0; i < word.length(); i++) {
                if (byteAt(place + i) != word.charAt(i)) {
                    return false;
                }
            }
            place = end;
            return true;
        }

        private int wordEnd() {
            int end = place;
            while (end < length && isLetter(byteAt(end))) {
                end++;
            }
            return end;
        }

        private void skipBlanks() {
            while (place >= 0 && place < length && place < bytes.length && bytes[place] == BLANK) {
                place++;
            }
        }

        private int signHere() {
            return place < length ? byteAt(place) : NONE;
        }

        private int byteAt(int where) {
            return where >= 0 && where < bytes.length ? bytes[where] & 255 : NONE;
        }

        private boolean fails(int kind, int where) {
            faultKind = kind;
            faultPlace = where;
            return false;
        }
    }

    /**
     * What was SAID of numbers by the rules of now. Those that can be of ALL have a slot each,
     * so that whole ALL can be kept; the higher ones share a few.
     */
    private static final class Memo {
        private static final int SHARED = 151;
        private static final int SLOTS = MOST_LIMIT + 1 + SHARED;

        final byte[] bytes = new byte[SLOTS * MOST_BYTES];
        private final int[] numbers = new int[SLOTS];
        // NONE: the number is SILENT when it is the uppermost one
        private final int[] lengths = new int[SLOTS];
        private final int[] asks = new int[SLOTS];
        // how many numbers are being said at once, at most, as the number is
        private final int[] heights = new int[SLOTS];

        Memo() {
            forget();
        }

        void forget() {
            Arrays.fill(numbers, NONE);
        }

        /** A slot for any n, though only one from 0 on is ever kept. */
        int slotOf(int n) {
            if (n <= MOST_LIMIT) {
                return n < 0 ? 0 : n;
            }
            return MOST_LIMIT + 1 + n % SHARED;
        }

        boolean knows(int n) {
            return n >= 0 && numbers[slotOf(n)] == n;
        }

        boolean isSilent(int n) {
            int slot = slotOf(n);
            return n >= 0 && numbers[slot] == n && lengths[slot] == NONE;
        }

        boolean isSaid(int n) {
            int slot = slotOf(n);
            return n >= 0 && numbers[slot] == n && lengths[slot] != NONE;
        }

        int startOf(int n) {
            return slotOf(n) * MOST_BYTES;
        }

        /** 0, too, if n is not known to be said. */
        int lengthOf(int n) {
            int slot = slotOf(n);
            return numbers[slot] == n && lengths[slot] > 0 ? Math.min(lengths[slot], MOST_BYTES) : 0;
        }

        int asksOf(int n) {
            return asks[slotOf(n)];
        }

        void keepSilent(int n) {
            if (n >= 0) {
                int slot = slotOf(n);
                numbers[slot] = n;
                lengths[slot] = NONE;
            }
        }

        void keepSaid(int n, byte[] text, int start, int length, int askCount, int height) {
            if (n < 0 || length > MOST_BYTES) {
                return;
            }
            int slot = slotOf(n);
            copyBytes(text, start, bytes, slot * MOST_BYTES, length);
            numbers[slot] = n;
            lengths[slot] = length;
            asks[slot] = askCount;
            heights[slot] = height;
        }

        int byteOf(int n, int k) {
            return k >= 0 && k < lengthOf(n) ? bytes[startOf(n) + k] : NONE;
        }

        int wordsOf(int n) {
            int length = lengthOf(n);
            return length == 0 ? 0 : length - lettersOf(n) + 1;
        }

        int lettersOf(int n) {
            int start = startOf(n);
            int end = start + lengthOf(n);
            int many = 0;
            for (int i = start; i < end; i++) {
                if (bytes[i] != BLANK) {
                    many++;
                }
            }
            return many;
        }

        int sumOf(int n) {
            int start = startOf(n);
            int end = start + lengthOf(n);
            int sum = 0;
            for (int i = start; i < end; i++) {
                sum += bytes[i];
            }
            return sum;
        }

        /** Of an n that both say or neither does. */
        boolean isLike(Memo other, int n) {
            return compareBytes(bytes, startOf(n), lengthOf(n), other.bytes, other.startOf(n), other.lengthOf(n)) == 0;
        }
    }

    /** The CAUSES of the latest number that was found SILENT, the uppermost first. */
    private static final class Causes {
        private static final int MOST = MOST_OPEN + 1;

        private final int[] numbers = new int[MOST];
        private final int[] kinds = new int[MOST];
        private final int[] rules = new int[MOST];
        private final int[] items = new int[MOST];
        int size = 0;

        /** Always false, for the number that can't be said then. */
        boolean tell(int depth, int n, int kind, int rule, int item) {
            if (depth >= 0 && depth < MOST) {
                numbers[depth] = n;
                kinds[depth] = kind;
                rules[depth] = rule;
                items[depth] = item;
                if (kind != ASKS_SILENT) {
                    size = depth + 1;
                }
            }
            return false;
        }

        int answer(int k, int what) {
            if (k < 0 || k >= size || k >= MOST) {
                return NONE;
            }
            switch (what) {
                case 0:
                    return numbers[k];
                case 1:
                    return kinds[k];
                case 2:
                    return rules[k];
                default:
                    return items[k];
            }
        }
    }

    /**
     * Says numbers by the RULES of one LANGUAGE.
     *
     * A number that was said once is said alike wherever it is asked for: only the bounds on how many
     * are being said and asked for can forbid it there, so the memo keeps its height and its asks. (None
     * that is being said can be among those that it asks for: it would ask for itself then.)
     */
    private static final class Voice {
        final Memo memo = new Memo();
        final Causes causes = new Causes();
        private final Rule[] rules = new Rule[MOST_RULES];
        private int count = 0;
        private int usedBits = 0;
        // of each number that is being said, the uppermost first: it, its text so far, its height so far
        private final int[] open = new int[MOST_OPEN];
        private final byte[] texts = new byte[MOST_OPEN * MOST_BYTES];
        private final int[] lengths = new int[MOST_OPEN];
        private final int[] heights = new int[MOST_OPEN];
        private int asks = 0;
        private boolean wantsCauses = false;

        /** From now on by the rules of the book, but for one perhaps. */
        void learn(Book book, int language, int without) {
            count = 0;
            for (int i = 0; i < book.countOf(language) && count < MOST_RULES; i++) {
                if (i != without) {
                    rules[count] = book.ruleOf(language, i);
                    count++;
                }
            }
            usedBits = 0;
            memo.forget();
        }

        int firstFit(int n) {
            for (int i = 0; i < count && i < MOST_RULES; i++) {
                Rule rule = rules[i];
                if (rule != null && rule.covers(n)) {
                    return i;
                }
            }
            return NONE;
        }

        int countFirstFits(int rule, int highest) {
            int many = 0;
            for (int n = 0; n <= highest; n++) {
                if (firstFit(n) == rule) {
                    many++;
                }
            }
            return many;
        }

        /** Whether n is not SILENT: the memo has what it is said then. */
        boolean says(int n) {
            if (n < 0 || n > TOP) {
                return false;
            }
            if (!memo.knows(n)) {
                wantsCauses = false;
                asks = 0;
                if (!speaks(n, 0)) {
                    memo.keepSilent(n);
                }
            }
            return memo.isSaid(n);
        }

        void sayAll(int highest) {
            for (int n = 0; n <= highest; n++) {
                says(n);
            }
        }

        /** Whether the rule was used for any number since it was learnt. */
        boolean hasUsed(int rule) {
            return rule >= 0 && rule < MOST_RULES && (usedBits >>> rule & 1) == 1;
        }

        int traceCauses(int n) {
            wantsCauses = true;
            asks = 0;
            causes.size = 0;
            return speaks(n, 0) ? 0 : causes.size;
        }

        /** How many numbers up to the highest are not said as the other voice says them, up to enough. */
        int differences(Voice other, int highest, int enough) {
            int many = 0;
            for (int n = 0; n <= highest && many < enough; n++) {
                boolean both = says(n) == other.says(n);
                if (!both || !memo.isLike(other.memo, n)) {
                    many++;
                }
            }
            return many;
        }

        private boolean speaks(int n, int depth) {
            int refusal = refusalOf(n, depth);
            if (refusal != NONE || depth < 0 || depth >= MOST_OPEN) {
                return causes.tell(depth, n, refusal, NONE, NONE);
            }
            if (depth > 0) {
                asks++;
            }
            if (recalls(n, depth)) {
                return true;
            }
            if (!wantsCauses && memo.isSilent(n)) {
                return false;
            }
            int rule = firstFit(n);
            if (rule == NONE) {
                return causes.tell(depth, n, NO_RULE, NONE, NONE);
            }
            usedBits |= 1 << rule;
            open[depth] = n;
            lengths[depth] = 0;
            heights[depth] = 1;
            int before = asks;
            if (!saysItems(n, rule, depth)) {
                return false;
            }
            memo.keepSaid(n, texts, depth * MOST_BYTES, lengths[depth], asks - before, heights[depth]);
            return true;
        }

        private int refusalOf(int n, int depth) {
            if (n < 0 || n > TOP) {
                return NO_NUMBER;
            }
            for (int i = 0; i < depth && i < MOST_OPEN; i++) {
                if (open[i] == n) {
                    return ASKS_ITSELF;
                }
            }
            if (depth >= MOST_OPEN) {
                return TOO_DEEP;
            }
            return depth > 0 && asks >= MOST_ASKS ? TOO_MANY : NONE;
        }

        private boolean recalls(int n, int depth) {
            int slot = memo.slotOf(n);
            if (!memo.isSaid(n) || depth + memo.heights[slot] > MOST_OPEN || asks + memo.asks[slot] > MOST_ASKS) {
                return false;
            }
            asks += memo.asks[slot];
            return true;
        }

        private boolean saysItems(int n, int ruleIndex, int depth) {
            Rule rule = ruleIndex >= 0 && ruleIndex < MOST_RULES ? rules[ruleIndex] : null;
            if (rule == null || depth < 0 || depth >= MOST_OPEN) {
                return false;
            }
            boolean glued = false;
            for (int item = 0; item < rule.size(); item++) {
                int kind = rule.kindOf(item);
                if (kind == GLUE) {
                    glued = true;
                    continue;
                }
                if (rule.asksNothing(item, n)) {
                    continue;
                }
                int before = lengths[depth];
                boolean room;
                if (kind == WORD) {
                    room = addsWord(rule, item, depth, glued);
                } else {
                    int next = rule.numberAsked(item, n);
                    if (!speaks(next, depth + 1)) {
                        return causes.tell(depth, n, ASKS_SILENT, ruleIndex, item);
                    }
                    room = addsSaid(next, depth, glued);
                }
                if (!room) {
                    return causes.tell(depth, n, TOO_LONG, ruleIndex, item);
                }
                if (lengths[depth] > before) {
                    glued = false;
                }
            }
            return true;
        }

        private boolean addsWord(Rule rule, int item, int depth, boolean glued) {
            int many = rule.valueOf(item);
            if (!opensRoom(many, depth, glued)) {
                return false;
            }
            int end = depth * MOST_BYTES + lengths[depth];
            for (int k = 0; k < many && end + k < texts.length; k++) {
                texts[end + k] = (byte) rule.letterOf(item, k);
            }
            lengths[depth] += many;
            return true;
        }

        private boolean addsSaid(int n, int depth, boolean glued) {
            int slot = memo.slotOf(n);
            heights[depth] = Math.max(heights[depth], 1 + memo.heights[slot]);
            int many = memo.lengths[slot];
            if (many <= 0) {
                return true;
            }
            if (!opensRoom(many, depth, glued)) {
                return false;
            }
            copyBytes(memo.bytes, slot * MOST_BYTES, texts, depth * MOST_BYTES + lengths[depth], many);
            lengths[depth] += many;
            return true;
        }

        /** Puts the blank, if one is due; false: so many bytes more would be too many. */
        private boolean opensRoom(int many, int depth, boolean glued) {
            int length = lengths[depth];
            boolean blank = length > 0 && !glued;
            if (length + (blank ? 1 : 0) + many > MOST_BYTES) {
                return false;
            }
            if (blank) {
                texts[depth * MOST_BYTES + length] = (byte) BLANK;
                lengths[depth] = length + 1;
            }
            return true;
        }
    }

    /** Those of ALL that are said, in ORDER; alike ones stand together, the lesser number ahead. */
    private static final class Ranking {
        final Voice voice = new Voice();
        private final int[] sorted = new int[MOST_LIMIT + 1];
        private final int[] spare = new int[MOST_LIMIT + 1];
        private int size = 0;
        private int preparedTo = NONE;
        private int foundFrom = 0;
        private int foundTo = 0;
        int alikeCount = 0;
        int alikeLeast = NONE;
        int alikeNext = NONE;
        int unlikeCount = 0;

        void forget() {
            preparedTo = NONE;
        }

        /** This, with the numbers up to the highest in their order. */
        Ranking prepared(int highest) {
            if (preparedTo != highest) {
                size = 0;
                for (int n = 0; n <= highest && size <= MOST_LIMIT; n++) {
                    if (voice.says(n)) {
                        sorted[size] = n;
                        size++;
                    }
                }
                sort();
                preparedTo = highest;
            }
            return this;
        }

        /** Merges: it leaves alike ones in the order of their numbers. */
        private void sort() {
            for (int width = 1; width < size; width *= 2) {
                for (int from = 0; from < size; from += 2 * width) {
                    int middle = Math.min(from + width, size);
                    merge(from, middle, Math.min(middle + width, size));
                }
                System.arraycopy(spare, 0, sorted, 0, size);
            }
        }

        private void merge(int from, int middle, int to) {
            int left = from;
            int right = middle;
            for (int i = from; i < to; i++) {
                boolean takeLeft = right >= to || left < middle && compare(sorted[left], sorted[right]) <= 0;
                if (takeLeft) {
                    spare[i] = sorted[left];
                    left++;
                } else {
                    spare[i] = sorted[right];
                    right++;
                }
            }
        }

        private int compare(int a, int b) {
            Memo memo = voice.memo;
            return compareBytes(memo.bytes, memo.startOf(a), memo.lengthOf(a), memo.bytes, memo.startOf(b), memo.lengthOf(b));
        }

        int numberAt(int k) {
            return k >= 0 && k < size ? sorted[k] : NONE;
        }

        /** How many are READ of a text. */
        int find(byte[] text, int start, int length) {
            foundFrom = placeOf(text, start, length, false);
            foundTo = placeOf(text, start, length, true);
            return foundTo - foundFrom;
        }

        int firstFound() {
            return foundFrom < foundTo ? numberAt(foundFrom) : NONE;
        }

        int lastFound() {
            return foundFrom < foundTo ? numberAt(foundTo - 1) : NONE;
        }

        private int placeOf(byte[] text, int start, int length, boolean behind) {
            Memo memo = voice.memo;
            int low = 0;
            int high = size;
            for (int step = 0; step <= MOST_LIMIT && low < high; step++) {
                int middle = (low + high) / 2;
                int n = numberAt(middle);
                int difference = compareBytes(memo.bytes, memo.startOf(n), memo.lengthOf(n), text, start, length);
                if (difference < 0 || behind && difference == 0) {
                    low = middle + 1;
                } else {
                    high = middle;
                }
            }
            return low;
        }

        void group() {
            alikeCount = 0;
            alikeLeast = NONE;
            alikeNext = NONE;
            unlikeCount = 0;
            int from = 0;
            for (int i = 1; i <= size; i++) {
                if (i < size && compare(numberAt(from), numberAt(i)) == 0) {
                    continue;
                }
                unlikeCount++;
                if (i - from > 1) {
                    addGroup(from, i - from);
                }
                from = i;
            }
        }

        private void addGroup(int from, int many) {
            alikeCount += many;
            int least = numberAt(from);
            if (alikeLeast == NONE || least < alikeLeast) {
                alikeLeast = least;
                alikeNext = numberAt(from + 1);
            }
        }
    }

    /** How often each of the WORDS of ALL is said. */
    private static final class WordCount {
        // more than texts of 1,001 times 100 bytes can have unlike words
        private static final int SLOTS = 32_768;

        // where a word stands first, among the bytes of the memo
        private final int[] starts = new int[SLOTS];
        private final int[] lengths = new int[SLOTS];
        private final int[] times = new int[SLOTS];
        int unlike = 0;
        private int most = NONE;

        void countAll(Voice voice, int highest) {
            Arrays.fill(times, 0);
            unlike = 0;
            for (int n = 0; n <= highest; n++) {
                if (voice.says(n)) {
                    countText(voice.memo.bytes, voice.memo.startOf(n), voice.memo.lengthOf(n));
                }
            }
            findMost(voice.memo.bytes);
        }

        private void countText(byte[] bytes, int start, int length) {
            int end = Math.min(start + length, bytes.length);
            int from = start;
            for (int i = start; i <= end; i++) {
                if (i < end && bytes[i] != BLANK) {
                    continue;
                }
                if (i > from) {
                    countWord(bytes, from, i - from);
                }
                from = i + 1;
            }
        }

        private void countWord(byte[] bytes, int start, int length) {
            int hash = 0;
            for (int i = start; i < start + length && i < bytes.length; i++) {
                hash = 31 * hash + bytes[i];
            }
            int slot = (hash ^ hash >>> 15) & (SLOTS - 1);
            for (int tries = 0; tries < SLOTS; tries++) {
                if (times[slot] == 0) {
                    starts[slot] = start;
                    lengths[slot] = length;
                    times[slot] = 1;
                    unlike++;
                    return;
                }
                if (compareBytes(bytes, starts[slot], lengths[slot], bytes, start, length) == 0) {
                    times[slot]++;
                    return;
                }
                slot = (slot + 1) & (SLOTS - 1);
            }
        }

        private void findMost(byte[] bytes) {
            most = NONE;
            for (int slot = 0; slot < SLOTS; slot++) {
                if (times[slot] > 0 && (most == NONE || comesAhead(bytes, slot, most))) {
                    most = slot;
                }
            }
        }

        private boolean comesAhead(byte[] bytes, int slot, int other) {
            if (times[slot] != times[other]) {
                return times[slot] > times[other];
            }
            return compareBytes(bytes, starts[slot], lengths[slot], bytes, starts[other], lengths[other]) < 0;
        }

        int mostTimes() {
            return most == NONE ? 0 : times[most];
        }

        int lettersOfMost() {
            return most == NONE ? 0 : lengths[most];
        }
    }

    /** The CHART of a text and the WAYS to hear it. */
    private static final class Chart {
        // the words with one blank between
        private final byte[] line = new byte[MOST_TAPE];
        private final int[] starts = new int[MOST_WORDS];
        private final int[] ends = new int[MOST_WORDS];
        private int count = 0;
        // from each word on to the end; behind the last word stands the end itself
        private final long[] ways = new long[MOST_WORDS + 1];
        private final int[] fewest = new int[MOST_WORDS + 1];
        private final int[] nexts = new int[MOST_WORDS + 1];
        private final int[] leasts = new int[MOST_WORDS + 1];
        int heardStretches = 0;

        /** False: it is not made of small letters and blanks, or has too many words. */
        boolean splits(byte[] text, int many) {
            count = 0;
            int size = 0;
            boolean inWord = false;
            for (int i = 0; i < many && i < text.length; i++) {
                int sign = text[i];
                if (!isLetter(sign)) {
                    if (sign != BLANK) {
                        return false;
                    }
                    inWord = false;
                    continue;
                }
                if (!inWord) {
                    if (count >= MOST_WORDS) {
                        return false;
                    }
                    size = opensWord(size);
                    inWord = true;
                }
                size = putLetter(sign, size);
            }
            return true;
        }

        private int opensWord(int size) {
            int start = count == 0 ? size : putSign(BLANK, size);
            if (count >= 0 && count < MOST_WORDS) {
                starts[count] = start;
                count++;
            }
            return start;
        }

        private int putLetter(int sign, int size) {
            int end = putSign(sign, size);
            if (count > 0 && count <= MOST_WORDS) {
                ends[count - 1] = end;
            }
            return end;
        }

        private int putSign(int sign, int size) {
            if (size < 0 || size >= line.length) {
                return size;
            }
            line[size] = (byte) sign;
            return size + 1;
        }

        void weigh(Ranking ranking) {
            heardStretches = 0;
            ways[count] = 1;
            fewest[count] = 0;
            for (int from = count - 1; from >= 0; from--) {
                weighFrom(ranking, from);
            }
        }

        private void weighFrom(Ranking ranking, int from) {
            ways[from] = 0;
            fewest[from] = NONE;
            for (int to = from + 1; to <= count && to <= MOST_WORDS; to++) {
                int length = ends[to - 1] - starts[from];
                if (length > MOST_BYTES) {
                    break;
                }
                int many = ranking.find(line, starts[from], length);
                if (many == 0) {
                    continue;
                }
                heardStretches++;
                ways[from] = Math.min(HELD, ways[from] + many * ways[to]);
                // not fewer alone: of alike ones the longer stretch, that comes later here
                if (fewest[to] != NONE && (fewest[from] == NONE || fewest[to] + 1 <= fewest[from])) {
                    fewest[from] = fewest[to] + 1;
                    nexts[from] = to;
                    leasts[from] = ranking.firstFound();
                }
            }
        }

        int waysInAll() {
            return (int) ways[0];
        }

        int stretchesOfTheWay() {
            return fewest[0];
        }

        int sumOfTheWay() {
            if (fewest[0] == NONE) {
                return NONE;
            }
            long sum = 0;
            int word = 0;
            for (int i = 0; i < fewest[0] && word >= 0 && word < count; i++) {
                sum = Math.min(HELD, sum + leasts[word]);
                word = nexts[word];
            }
            return (int) sum;
        }

        int stretchOfTheWay(int k, int what) {
            int word = 0;
            for (int i = 0; i < k && word >= 0 && word < count; i++) {
                word = nexts[word];
            }
            if (word < 0 || word >= count) {
                return NONE;
            }
            return what == 0 ? leasts[word] : nexts[word] - word;
        }
    }
}
