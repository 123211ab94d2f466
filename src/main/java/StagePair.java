import java.util.Arrays;

/** A code room for a pair on a stage; ../shared/DOC.md says what each call does. */
public final class StagePair {
    public static final int NONE = -1;
    public static final int RANGE = -2;
    public static final int FULL = -3;
    public static final int STATE = -4;

    private static final int CUES = 8;
    private static final int ALL_CUES = 255;
    private static final int LONGEST_ROW = 6;
    private static final int LONGEST_WORD = 12;
    private static final int NO_SUCH = -9;
    private static final int LAST_DAY = 9999;

    private final Tape tape;
    private final Cues cues;
    private final Books books;
    private final Things things;
    private final Lengths lengths;
    private final Spies spies;
    private final Ways ways;
    private final Shows shows;
    private Manners kept;
    private Manners spare;
    private Maker maker;
    private int faultKind;
    private int faultPlace;

    public StagePair() {
        tape = new Tape();
        cues = new Cues();
        books = new Books();
        things = new Things();
        lengths = new Lengths();
        spies = new Spies();
        ways = new Ways();
        shows = new Shows();
        kept = new Manners();
        spare = new Manners();
        maker = null;
        faultKind = 0;
        faultPlace = NONE;
    }

    // ---- the tape

    public int feed(int a, int b, int c, int d, int e) {
        return tape.takeIn(a, b, c, d, e);
    }

    public int end(int n) {
        return tape.cutTo(n);
    }

    // ---- cues, questions

    public int word(int k) {
        int answer = cues.takeWord(k, tape);
        tape.clear();
        return answer;
    }

    public int letter(int k, int i) {
        return cues.letterOf(k, i);
    }

    public int may(int k, int behind, boolean is) {
        return cues.setFollows(k, behind, is);
    }

    public int first(int k, boolean is) {
        return cues.setFirst(k, is);
    }

    public int book() {
        int answer = NONE;
        if (tape.isBook()) {
            books.takeDigits(tape);
            answer = 1;
        }
        tape.clear();
        return answer;
    }

    public int digit(int k) {
        return k < 0 || k >= CUES ? RANGE : books.digits[k];
    }

    public int ask() {
        int answer = NONE;
        if (tape.splitWords()) {
            answer = cues.hearWords(tape);
        }
        tape.clear();
        return answer;
    }

    public int asked(int what) {
        if (what == 0) {
            return cues.askedNatural();
        }
        if (what >= 10 && what < 10 + cues.askedCount) {
            return cues.askedCues[what - 10];
        }
        if (what >= 500 && what < 500 + cues.askedCount) {
            return books.digits[cues.askedCues[what - 500]];
        }
        return NONE;
    }

    // ---- things

    public int thing(int like) {
        return things.add(like);
    }

    public int row(int t) {
        int answer = things.takeRow(t, tape, cues);
        tape.clear();
        return answer;
    }

    public int about(int t, int what) {
        return things.tell(t, what);
    }

    public long cost() {
        long sum = 0;
        for (int t = 0; t < things.size; t++) {
            sum += (long) things.likes[t] * things.rowSizes[t];
        }
        return sum;
    }

    public int means() {
        return things.meant(cues);
    }

    public long heard() {
        return things.heardAs(cues);
    }

    public int shortest(int n) {
        if (n < 1 || n > Lengths.MOST || n > things.size) {
            return RANGE;
        }
        lengths.learnRules(cues);
        lengths.weigh(things.likes, n);
        int least = lengths.leastCost(n);
        if (least >= 0) {
            lengths.keepLengths(n);
        }
        return least;
    }

    public int length(int t) {
        return t < 0 || t >= lengths.keptCount ? NONE : lengths.keptLengths[t];
    }

    // ---- spies

    public int night() {
        int answer = spies.takeNight(tape);
        tape.clear();
        return answer;
    }

    public int misheard(int n) {
        return spies.setMisheard(n);
    }

    public int fits() {
        return spies.fitting();
    }

    public int sure(int k) {
        return k < 0 || k >= CUES ? RANGE : spies.sureDigit(k);
    }

    public int renew() {
        return spies.renewBook(books.digits);
    }

    // ---- names

    public int spell() {
        int answer = NONE;
        if (tape.isName(Books.LONGEST_SPELLED)) {
            answer = books.takeSpelled(tape);
        }
        tape.clear();
        return answer;
    }

    public int spelled(int i) {
        return i < 0 || i >= books.spelledSize ? NONE : books.spelledCues[i];
    }

    public int read(int i) {
        if (i < 0 || i >= cues.askedCount - 1) {
            return NONE;
        }
        return books.letterBy(cues.askedCues[i], cues.askedCues[i + 1]);
    }

    public int list() {
        int answer = books.takeListed(tape);
        tape.clear();
        return answer;
    }

    public int coughs(int i) {
        return books.coughsOf(i, cues);
    }

    public int nearest() {
        return books.nearestName(cues);
    }

    // ---- manners

    public int manners() {
        faultKind = spare.parse(tape);
        faultPlace = faultKind == 0 ? NONE : spare.place;
        tape.clear();
        if (faultKind != 0) {
            return NONE;
        }
        Manners old = kept;
        kept = spare;
        spare = old;
        ways.forget();
        return kept.rules;
    }

    public int fault(int what) {
        if (what == 0) {
            return faultKind;
        }
        return what == 1 ? faultPlace : NONE;
    }

    public int mannerly() {
        int answer = NONE;
        if (tape.splitWords() && tape.words <= Ways.MOST_WORDS) {
            answer = ways.match(kept, tape) ? 1 : 0;
        }
        tape.clear();
        return answer;
    }

    public long questions(int n) {
        if (n < 0 || n > Ways.MOST_WORDS) {
            return RANGE;
        }
        long all = ways.number(kept, n);
        return all > Ways.MOST_WAYS ? FULL : all;
    }

    public int make() {
        // Made at the first need: most rooms never make a question, and its rows are the widest.
        if (maker == null) {
            maker = new Maker();
        }
        int answer = maker.makeFor(tape, kept, cues);
        tape.clear();
        return answer;
    }

    public int made(int i) {
        return maker == null || i < 0 || i >= maker.textSize ? NONE : maker.text[i];
    }

    // ---- odds

    public int lost(int k, int hundredths) {
        return things.setLost(k, hundredths);
    }

    public int mistaken(int k, int as, int hundredths) {
        return things.setMistaken(k, as, hundredths);
    }

    public long chance(int t) {
        return t < 0 || t >= things.size ? 0 : things.chanceOf(t, cues);
    }

    public int likeliest() {
        return things.weighAll(cues);
    }

    public long share(int what) {
        if (what != 0 && what != 1) {
            return RANGE;
        }
        if (things.weighAll(cues) < 0) {
            return 0;
        }
        return things.cutShare(what);
    }

    // ---- in two, and given away

    public int inTwo(int n) {
        if (n < 2 || n > Lengths.MOST || n > things.size) {
            return RANGE;
        }
        lengths.learnRules(cues);
        return lengths.part(n, things.likes);
    }

    public int kind(int t) {
        return t < 0 || t >= lengths.kindsCount ? NONE : lengths.kinds[t];
    }

    public int away(int t) {
        if (t < 0 || t >= things.size) {
            return RANGE;
        }
        if (things.rowSizes[t] == 0) {
            return NONE;
        }
        spies.note(things, t, books.digits, 1);
        int answer = spies.fitting();
        spies.note(things, t, books.digits, -1);
        return answer;
    }

    public int fewest() {
        return spies.fewestRows(things);
    }

    public long few() {
        return spies.fewSet;
    }

    // ---- books by days

    public int bookOn(int day, int from) {
        int answer = books.takeDay(day, from, tape);
        tape.clear();
        return answer;
    }

    public int digitOn(int k, int day, int known) {
        return books.digitFor(k, day, known);
    }

    // ---- shows

    public int turnOf(int t) {
        if (t < 0 || t >= things.size) {
            return RANGE;
        }
        if (cues.askedCount < 0) {
            return STATE;
        }
        return shows.addTurn(t, things.weighAll(cues));
    }

    public int putRight(int i, int t) {
        if (i < 0 || i >= shows.turns || t < 0 || t >= things.size) {
            return RANGE;
        }
        return shows.addStep(i, t);
    }

    public int shown(int i, int step, int what) {
        return shows.tellTurn(i, step, what);
    }

    public int tally(int step, int what) {
        return shows.tellTally(step, what, things.size);
    }

    public int regret(int n) {
        if (n < 1 || n > Lengths.MOST || n > things.size) {
            return RANGE;
        }
        shows.tallyAll();
        int now = 0;
        for (int t = 0; t < n; t++) {
            if (things.rowSizes[t] == 0) {
                return NONE;
            }
            now += shows.tallies[t] * things.rowSizes[t];
        }
        lengths.learnRules(cues);
        lengths.weigh(shows.tallies, n);
        int least = lengths.leastCost(n);
        return least < 0 ? NONE : now - least;
    }

    public int count(int what) {
        switch (what) {
            case 0:
                return things.size;
            case 1:
                return spies.nights;
            case 2:
                return cues.named();
            case 3:
                return tape.size;
            case 4:
                return spies.most;
            case 5:
                return Math.max(cues.askedCount, 0);
            case 6:
                return books.listedCount;
            case 7:
                return books.dayCount;
            case 8:
                return shows.turns;
            case 9:
                return shows.steps;
            default:
                return NONE;
        }
    }

    /** The bytes that are fed, and what they can be read as. */
    private static final class Tape {
        static final int MOST = 400;
        static final int FED = 20;

        final int[] bytes = new int[MOST];
        final int[] wordStarts = new int[MOST / 2];
        final int[] wordSizes = new int[MOST / 2];
        int size;
        int words;

        int takeIn(int a, int b, int c, int d, int e) {
            if (size > MOST - FED) {
                return FULL;
            }
            put(a);
            put(b);
            put(c);
            put(d);
            put(e);
            return size;
        }

        private void put(int four) {
            for (int shift = 24; shift >= 0; shift -= 8) {
                bytes[size] = (four >>> shift) & 255;
                size++;
            }
        }

        int cutTo(int n) {
            if (n < 0 || n > size) {
                return NONE;
            }
            size = n;
            return n;
        }

        void clear() {
            size = 0;
        }

        /** Finds the words of a question; false if a byte can't stand in one. */
        boolean splitWords() {
            words = 0;
            boolean inside = false;
            for (int i = 0; i < size; i++) {
                int b = bytes[i];
                if (b != 10 && (b < 32 || b > 126)) {
                    return false;
                }
                if (b >= 'A' && b <= 'Z') {
                    // The tape is emptied behind every reading, so capitals can be made small in it.
                    b += 32;
                    bytes[i] = b;
                }
                boolean isLetter = b >= 'a' && b <= 'z';
                if (isLetter && !inside) {
                    wordStarts[words] = i;
                    wordSizes[words] = 0;
                    words++;
                }
                if (isLetter) {
                    wordSizes[words - 1]++;
                }
                inside = isLetter;
            }
            return true;
        }

        /** Reads a row of cues: how many, or NONE if it is no row of at most six. */
        int rowInto(int[] row) {
            if (size > LONGEST_ROW || size > row.length) {
                return NONE;
            }
            for (int i = 0; i < size; i++) {
                int cue = bytes[i] - 'A';
                if (cue < 0 || cue >= CUES) {
                    return NONE;
                }
                row[i] = cue;
            }
            return size;
        }

        boolean isBook() {
            if (size != CUES) {
                return false;
            }
            int seen = 0;
            for (int i = 0; i < CUES; i++) {
                int digit = bytes[i] - '0';
                if (digit < 0 || digit >= CUES) {
                    return false;
                }
                seen |= 1 << digit;
            }
            return seen == ALL_CUES;
        }

        boolean isName(int most) {
            if (size < 1 || size > most) {
                return false;
            }
            for (int i = 0; i < size; i++) {
                if (bytes[i] < 'a' || bytes[i] > 'z') {
                    return false;
                }
            }
            return true;
        }
    }

    /** The words of the cues, what may stand beside what, and the latest question. */
    private static final class Cues {
        final int[] letters = new int[CUES * LONGEST_WORD];
        final int[] wordSizes = new int[CUES];
        /** Bit k of followers[c]: cue k may stand behind cue c. */
        final int[] followers = new int[CUES];
        int firsts;
        final int[] askedCues = new int[Tape.MOST / 2];
        /** -1 as long as nothing was asked. */
        int askedCount;

        Cues() {
            Arrays.fill(followers, ALL_CUES);
            firsts = ALL_CUES;
            askedCount = -1;
        }

        int takeWord(int k, Tape tape) {
            if (k < 0 || k >= CUES) {
                return RANGE;
            }
            if (!tape.isName(LONGEST_WORD)) {
                return NONE;
            }
            int owner = cueOf(tape.bytes, 0, tape.size);
            if (owner >= 0 && owner != k) {
                return STATE;
            }
            System.arraycopy(tape.bytes, 0, letters, k * LONGEST_WORD, tape.size);
            wordSizes[k] = tape.size;
            return tape.size;
        }

        /** The cue whose word stands in a text of small letters; NONE if it is none. */
        int cueOf(int[] text, int from, int size) {
            for (int k = 0; k < CUES; k++) {
                if (wordSizes[k] == size && size > 0 && isWord(k, text, from)) {
                    return k;
                }
            }
            return NONE;
        }

        private boolean isWord(int k, int[] text, int from) {
            for (int i = 0; i < wordSizes[k]; i++) {
                if (letters[k * LONGEST_WORD + i] != text[from + i]) {
                    return false;
                }
            }
            return true;
        }

        int letterOf(int k, int i) {
            if (k < 0 || k >= CUES || i < 0 || i >= wordSizes[k]) {
                return NONE;
            }
            return letters[k * LONGEST_WORD + i];
        }

        int setFollows(int k, int ahead, boolean is) {
            if (k < 0 || k >= CUES || ahead < 0 || ahead >= CUES) {
                return RANGE;
            }
            int old = followers[ahead];
            followers[ahead] = withBit(old, k, is);
            return followers[ahead] == old ? 0 : 1;
        }

        int setFirst(int k, boolean is) {
            if (k < 0 || k >= CUES) {
                return RANGE;
            }
            int old = firsts;
            firsts = withBit(old, k, is);
            return firsts == old ? 0 : 1;
        }

        private static int withBit(int bits, int at, boolean is) {
            return is ? bits | (1 << at) : bits & ~(1 << at);
        }

        boolean isNatural(int[] row, int size) {
            if (size > 0 && (firsts >> row[0] & 1) == 0) {
                return false;
            }
            for (int i = 1; i < size; i++) {
                if ((followers[row[i - 1]] >> row[i] & 1) == 0) {
                    return false;
                }
            }
            return true;
        }

        /** Takes the cues of the words that the tape was split into. */
        int hearWords(Tape tape) {
            askedCount = 0;
            for (int w = 0; w < tape.words; w++) {
                int cue = cueOf(tape.bytes, tape.wordStarts[w], tape.wordSizes[w]);
                if (cue >= 0) {
                    askedCues[askedCount] = cue;
                    askedCount++;
                }
            }
            return askedCount;
        }

        int askedNatural() {
            if (askedCount < 0) {
                return NONE;
            }
            return isNatural(askedCues, askedCount) ? 1 : 0;
        }

        int named() {
            int sum = 0;
            for (int k = 0; k < CUES; k++) {
                sum += wordSizes[k] > 0 ? 1 : 0;
            }
            return sum;
        }
    }

    /** The book, books by days, and names that are spelled by the book. */
    private static final class Books {
        static final int MOST_DAYS = 50;
        static final int LONGEST_SPELLED = 40;
        static final int MOST_LISTED = 20;
        static final int LETTERS = 26;

        final int[] digits = new int[CUES];
        final int[] toldDays = new int[MOST_DAYS];
        final int[] fromDays = new int[MOST_DAYS];
        final int[] dayDigits = new int[MOST_DAYS * CUES];
        int dayCount;
        final int[] spelledCues = new int[2 * LONGEST_SPELLED];
        int spelledSize;
        final int[] listed = new int[MOST_LISTED * LONGEST_WORD];
        final int[] listedSizes = new int[MOST_LISTED];
        int listedCount;
        final int[] nameCues = new int[2 * LONGEST_WORD];
        final int[] least = new int[2 * LONGEST_WORD + 1];

        Books() {
            for (int k = 0; k < CUES; k++) {
                digits[k] = k;
            }
        }

        void takeDigits(Tape tape) {
            for (int k = 0; k < CUES; k++) {
                digits[k] = tape.bytes[k] - '0';
            }
        }

        private int cueFor(int wanted) {
            for (int k = 0; k < CUES; k++) {
                if (digits[k] == wanted) {
                    return k;
                }
            }
            return 0;
        }

        private void spellInto(int[] cuesOut, int at, int byteOfLetter) {
            int number = byteOfLetter - 'a';
            cuesOut[at] = cueFor(number >> 3);
            cuesOut[at + 1] = cueFor(number & 7);
        }

        int takeSpelled(Tape tape) {
            for (int i = 0; i < tape.size; i++) {
                spellInto(spelledCues, 2 * i, tape.bytes[i]);
            }
            spelledSize = 2 * tape.size;
            return spelledSize;
        }

        int letterBy(int highCue, int lowCue) {
            int number = digits[highCue] * 8 + digits[lowCue];
            return number < LETTERS ? 'a' + number : NONE;
        }

        int takeListed(Tape tape) {
            if (!tape.isName(LONGEST_WORD)) {
                return NONE;
            }
            if (listedCount >= MOST_LISTED) {
                return FULL;
            }
            System.arraycopy(tape.bytes, 0, listed, listedCount * LONGEST_WORD, tape.size);
            listedSizes[listedCount] = tape.size;
            listedCount++;
            return listedCount - 1;
        }

        /** The fewest coughs by which the latest question could come of a listed name. */
        int coughsOf(int i, Cues cues) {
            if (i < 0 || i >= listedCount || cues.askedCount < 0) {
                return NONE;
            }
            int size = 2 * listedSizes[i];
            int heardSize = cues.askedCount;
            if (heardSize > size) {
                return NONE;
            }
            for (int k = 0; k < listedSizes[i]; k++) {
                spellInto(nameCues, 2 * k, listed[i * LONGEST_WORD + k]);
            }
            int tooMany = 2 * size + 1;
            Arrays.fill(least, tooMany);
            least[0] = 0;
            for (int k = 0; k < size; k++) {
                // From the back: a cell needs the one below it as it was for a cue less.
                for (int j = heardSize; j >= 0; j--) {
                    int taken = least[j] + 1;
                    int stood = tooMany;
                    if (j > 0) {
                        stood = least[j - 1] + (cues.askedCues[j - 1] == nameCues[k] ? 0 : 1);
                    }
                    least[j] = Math.min(taken, stood);
                }
            }
            return least[heardSize];
        }

        int nearestName(Cues cues) {
            int best = NONE;
            int bestCoughs = 0;
            for (int i = 0; i < listedCount; i++) {
                int now = coughsOf(i, cues);
                if (now >= 0 && (best < 0 || now < bestCoughs)) {
                    best = i;
                    bestCoughs = now;
                }
            }
            return best;
        }

        private static boolean isDay(int day) {
            return day >= 0 && day <= LAST_DAY;
        }

        int takeDay(int day, int from, Tape tape) {
            if (!isDay(day) || !isDay(from)) {
                return RANGE;
            }
            if (dayCount > 0 && day < toldDays[dayCount - 1]) {
                return RANGE;
            }
            if (!tape.isBook()) {
                return NONE;
            }
            if (dayCount >= MOST_DAYS) {
                return FULL;
            }
            toldDays[dayCount] = day;
            fromDays[dayCount] = from;
            for (int k = 0; k < CUES; k++) {
                dayDigits[dayCount * CUES + k] = tape.bytes[k] - '0';
            }
            dayCount++;
            return dayCount;
        }

        int digitFor(int k, int day, int known) {
            if (k < 0 || k >= CUES || !isDay(day) || !isDay(known)) {
                return RANGE;
            }
            int best = NONE;
            for (int i = 0; i < dayCount; i++) {
                boolean counts = toldDays[i] <= known && fromDays[i] <= day;
                if (counts && (best < 0 || fromDays[i] >= fromDays[best])) {
                    best = i;
                }
            }
            return best < 0 ? k : dayDigits[best * CUES + k];
        }
    }

    /** Things with their rows, what noise does to rows, and the odds. */
    private static final class Things {
        static final int MOST = 40;
        static final int MOST_LIKE = 9999;
        static final int MOST_LOST = 30;
        static final int MOST_MISTAKEN = 5;
        static final int WHOLE = 100;
        static final int GCD_STEPS = 200;

        final int[] likes = new int[MOST];
        final int[] rowSizes = new int[MOST];
        final int[] rows = new int[MOST * LONGEST_ROW];
        int size;
        final int[] tried = new int[LONGEST_ROW];
        final int[] lostOdds = new int[CUES];
        final int[] mistakenOdds = new int[CUES * CUES];
        final long[] chances = new long[LONGEST_ROW + 1];
        long bestWeight;
        long allWeight;

        int add(int like) {
            if (like < 1 || like > MOST_LIKE) {
                return RANGE;
            }
            if (size >= MOST) {
                return FULL;
            }
            likes[size] = like;
            size++;
            return size - 1;
        }

        int takeRow(int t, Tape tape, Cues cues) {
            if (t < 0 || t >= size) {
                return RANGE;
            }
            int n = tape.rowInto(tried);
            if (n < 0) {
                return NONE;
            }
            int wrong = n == 0 ? 0 : wrongWith(t, n, cues);
            if (wrong > 0) {
                return -10 - wrong;
            }
            System.arraycopy(tried, 0, rows, t * LONGEST_ROW, n);
            rowSizes[t] = n;
            return n;
        }

        /** What is wrong with the tried row for a thing: 1, 2, 3, or 0. */
        private int wrongWith(int t, int n, Cues cues) {
            if (!cues.isNatural(tried, n)) {
                return 1;
            }
            int wrong = 0;
            for (int u = 0; u < size; u++) {
                int both = Math.min(rowSizes[u], n);
                if (u != t && both > 0 && alikeUpTo(u, tried, both) == both) {
                    if (rowSizes[u] <= n) {
                        return 2;
                    }
                    wrong = 3;
                }
            }
            return wrong;
        }

        /** How many cues, n at most, are alike from the begin of a thing's row and of another row. */
        private int alikeUpTo(int u, int[] row, int n) {
            int i = 0;
            while (i < n && rows[u * LONGEST_ROW + i] == row[i]) {
                i++;
            }
            return i;
        }

        private boolean isRowOf(int u, int[] row, int n) {
            return rowSizes[u] > 0 && rowSizes[u] == n && alikeUpTo(u, row, n) == n;
        }

        /** Whether one cough makes this row of a thing's row. */
        private boolean isCoughOf(int u, int[] row, int n) {
            int own = rowSizes[u];
            if (own == 0 || n > own || n < own - 1) {
                return false;
            }
            int at = alikeUpTo(u, row, n);
            int skipped = own - n;
            if (skipped == 0 && at == n) {
                return false;
            }
            int start = skipped == 0 ? at + 1 : at;
            for (int i = start; i < n; i++) {
                if (rows[u * LONGEST_ROW + i + skipped] != row[i]) {
                    return false;
                }
            }
            return true;
        }

        int meant(Cues cues) {
            for (int t = 0; t < size; t++) {
                if (isRowOf(t, cues.askedCues, cues.askedCount)) {
                    return t;
                }
            }
            return NONE;
        }

        long heardAs(Cues cues) {
            long bits = 0;
            if (cues.askedCount < 0 || cues.askedCount > LONGEST_ROW) {
                return bits;
            }
            for (int t = 0; t < size; t++) {
                if (isRowOf(t, cues.askedCues, cues.askedCount)
                        || isCoughOf(t, cues.askedCues, cues.askedCount)) {
                    bits |= 1L << t;
                }
            }
            return bits;
        }

        int tell(int t, int what) {
            if (t < 0 || t >= size) {
                return NONE;
            }
            if (what == 0) {
                return likes[t];
            }
            if (what == 1) {
                return rowSizes[t];
            }
            if (what == 2) {
                return rowSizes[t] == 0 ? NONE : safety(t);
            }
            if (what >= 10 && what < 10 + rowSizes[t]) {
                return rows[t * LONGEST_ROW + what - 10];
            }
            return NONE;
        }

        private int safety(int t) {
            int safe = 2;
            int own = rowSizes[t];
            for (int at = 0; at < own; at++) {
                for (int cue = 0; cue <= CUES; cue++) {
                    boolean isChange = cue != rows[t * LONGEST_ROW + at];
                    if (isChange) {
                        safe = Math.min(safe, safetyOfTried(t, spoil(t, at, cue)));
                    }
                }
            }
            return safe;
        }

        /** Tries the row of a thing with one cue changed, or (cue 8) taken away: how long it is. */
        private int spoil(int t, int at, int cue) {
            int n = 0;
            for (int i = 0; i < rowSizes[t]; i++) {
                if (i != at) {
                    tried[n] = rows[t * LONGEST_ROW + i];
                    n++;
                } else if (cue < CUES) {
                    tried[n] = cue;
                    n++;
                }
            }
            return n;
        }

        private int safetyOfTried(int t, int n) {
            int safe = 2;
            for (int u = 0; u < size; u++) {
                if (u != t && isRowOf(u, tried, n)) {
                    return 0;
                }
                if (u != t && isCoughOf(u, tried, n)) {
                    safe = 1;
                }
            }
            return safe;
        }

        int setLost(int k, int hundredths) {
            if (k < 0 || k >= CUES || hundredths < 0 || hundredths > MOST_LOST) {
                return RANGE;
            }
            int old = lostOdds[k];
            lostOdds[k] = hundredths;
            return old;
        }

        int setMistaken(int k, int as, int hundredths) {
            if (k < 0 || k >= CUES || as < 0 || as >= CUES || k == as) {
                return RANGE;
            }
            if (hundredths < 0 || hundredths > MOST_MISTAKEN) {
                return RANGE;
            }
            int old = mistakenOdds[k * CUES + as];
            mistakenOdds[k * CUES + as] = hundredths;
            return old;
        }

        private int oddsOf(int k, int as) {
            if (k != as) {
                return mistakenOdds[k * CUES + as];
            }
            int kept = WHOLE - lostOdds[k];
            for (int other = 0; other < CUES; other++) {
                kept -= mistakenOdds[k * CUES + other];
            }
            return kept;
        }

        /** The sum over all ways by which a thing's row is heard as the latest question. */
        long chanceOf(int t, Cues cues) {
            int own = rowSizes[t];
            int n = cues.askedCount;
            if (own == 0 || n < 0 || n > own) {
                return 0;
            }
            Arrays.fill(chances, 0);
            chances[0] = 1;
            for (int i = 0; i < own; i++) {
                int cue = rows[t * LONGEST_ROW + i];
                // From the back: a cell needs the one below it as it was for a cue less.
                for (int j = n; j >= 0; j--) {
                    long sum = chances[j] * lostOdds[cue];
                    if (j > 0) {
                        sum += chances[j - 1] * oddsOf(cue, cues.askedCues[j - 1]);
                    }
                    chances[j] = sum;
                }
            }
            return chances[n];
        }

        /** The likeliest thing for the latest question; its weight and that of all are kept. */
        int weighAll(Cues cues) {
            int best = NONE;
            bestWeight = 0;
            allWeight = 0;
            for (int t = 0; t < size; t++) {
                long weight = likes[t] * chanceOf(t, cues);
                // All weights over 100 to the power of six, so that they can be set side by side.
                for (int i = rowSizes[t]; i < LONGEST_ROW; i++) {
                    weight *= WHOLE;
                }
                allWeight += weight;
                if (weight > bestWeight) {
                    best = t;
                    bestWeight = weight;
                }
            }
            return best;
        }

        /** Above (0) or below (1) of the latest best weight over that of all, cut. */
        long cutShare(int what) {
            long a = allWeight;
            long b = bestWeight;
            for (int i = 0; i < GCD_STEPS && b > 0; i++) {
                long rest = a % b;
                a = b;
                b = rest;
            }
            if (a <= 0) {
                return 0;
            }
            return (what == 0 ? bestWeight : allWeight) / a;
        }
    }

    /**
     * A set of shapes: how many rows end at each depth, digit i (of 3 bits) telling depth i.
     * They stand in the order of how many rows they have in all, seven at most.
     */
    private static final class Shapes {
        static final int MOST_ROWS = 7;
        static final int CODE_BITS = 15;

        final int[] codes;
        /** Those of n rows stand from starts[n] on, up to starts[n + 1]. */
        final int[] starts = new int[MOST_ROWS + 2];

        Shapes(int room) {
            codes = new int[Math.max(room, 2)];
            setNothing();
        }

        void setNothing() {
            codes[0] = 0;
            Arrays.fill(starts, 1);
            starts[0] = 0;
        }

        void setNothingOrLeaf() {
            setNothing();
            codes[1] = 1;
            Arrays.fill(starts, 2, MOST_ROWS + 2, 2);
        }

        /** Becomes all sums of one shape of each set; `seen` is all 0 ahead and behind. */
        void setSums(Shapes one, Shapes other, long[] seen) {
            int size = 0;
            for (int n = 0; n <= MOST_ROWS; n++) {
                starts[n] = size;
                for (int of = 0; of <= n; of++) {
                    size = addSums(one, of, other, n - of, seen, size);
                }
            }
            starts[MOST_ROWS + 1] = size;
            for (int i = 0; i < size; i++) {
                seen[codes[i] >> 6] = 0;
            }
        }

        private int addSums(Shapes one, int n, Shapes other, int m, long[] seen, int size) {
            int end = size;
            for (int i = one.starts[n]; i < one.starts[n + 1]; i++) {
                for (int j = other.starts[m]; j < other.starts[m + 1]; j++) {
                    int code = one.codes[i] + other.codes[j];
                    long bit = 1L << (code & 63);
                    if ((seen[code >> 6] & bit) == 0 && end < codes.length) {
                        seen[code >> 6] |= bit;
                        codes[end] = code;
                        end++;
                    }
                }
            }
            return end;
        }

        void setLike(Shapes other) {
            int size = Math.min(other.starts[MOST_ROWS + 1], codes.length);
            System.arraycopy(other.codes, 0, codes, 0, size);
            System.arraycopy(other.starts, 0, starts, 0, starts.length);
        }

        /** Becomes what a cue can begin: nothing, its own row's end, or what its followers begin. */
        void setTree(Shapes below) {
            int size = 0;
            for (int n = 0; n <= MOST_ROWS; n++) {
                starts[n] = size;
                if (n == 1) {
                    codes[size] = 1;
                    size++;
                }
                for (int i = below.starts[n]; i < below.starts[n + 1] && size < codes.length; i++) {
                    codes[size] = below.codes[i] << 3;
                    size++;
                }
            }
            starts[MOST_ROWS + 1] = size;
        }
    }

    /** How long the shortest rows are, in one question or in two. */
    private static final class Lengths {
        static final int MOST = 7;
        static final int USED_CUES = 4;
        static final int LONGEST = 5;
        static final int USED_MASK = 15;
        /** All shapes of at most seven rows at depths 1 .. 4, and the leaf; at depths 1 .. 5. */
        static final int TREE_SHAPES = 331;
        static final int ALL_SHAPES = 792;

        final Shapes[] trees = new Shapes[USED_CUES];
        final Shapes[] taller = new Shapes[USED_CUES];
        Shapes sum;
        Shapes spareSum;
        final long[] seen = new long[1 << (Shapes.CODE_BITS - 6)];
        /** The rules of standing beside for which `sum` has all shapes; -1: not yet any. */
        int rulesOfSum;
        final int[] weights = new int[MOST];
        final int[] order = new int[MOST];
        final int[] tried = new int[MOST];
        final int[] best = new int[MOST];
        final int[] keptLengths = new int[MOST];
        int keptCount;
        final int[] partCosts = new int[1 << MOST];
        final int[] kinds = new int[MOST];
        int kindsCount;

        Lengths() {
            for (int c = 0; c < USED_CUES; c++) {
                trees[c] = new Shapes(TREE_SHAPES);
                taller[c] = new Shapes(TREE_SHAPES);
            }
            sum = new Shapes(ALL_SHAPES);
            spareSum = new Shapes(ALL_SHAPES);
            rulesOfSum = -1;
        }

        void weigh(int[] from, int n) {
            System.arraycopy(from, 0, weights, 0, n);
        }

        /** The least cost of rows for the n weights, or NONE; `best` has how long each is. */
        int leastCost(int n) {
            sortOrder(n);
            int least = NONE;
            for (int i = sum.starts[n]; i < sum.starts[n + 1]; i++) {
                int now = costOf(sum.codes[i], n);
                if (least < 0 || now < least || (now == least && isTriedLess(n))) {
                    least = now;
                    System.arraycopy(tried, 0, best, 0, n);
                }
            }
            return least;
        }

        void keepLengths(int n) {
            System.arraycopy(best, 0, keptLengths, 0, n);
            keptCount = n;
        }

        /** Heavier things first, of as heavy ones the lesser number. */
        private void sortOrder(int n) {
            for (int t = 0; t < n; t++) {
                int at = t;
                while (at > 0 && weights[order[at - 1]] < weights[t]) {
                    order[at] = order[at - 1];
                    at--;
                }
                order[at] = t;
            }
        }

        private int costOf(int code, int n) {
            int total = 0;
            int at = 0;
            for (int depth = 0; depth < LONGEST; depth++) {
                int ends = at + (code >> (3 * depth) & 7);
                while (at < ends && at < n) {
                    tried[order[at]] = depth + 1;
                    total += weights[order[at]] * (depth + 1);
                    at++;
                }
            }
            return total;
        }

        private boolean isTriedLess(int n) {
            for (int t = 0; t < n; t++) {
                if (tried[t] != best[t]) {
                    return tried[t] < best[t];
                }
            }
            return false;
        }

        /** Finds all shapes of rows that may be now; they stay until other rules come. */
        void learnRules(Cues cues) {
            int rules = cues.firsts & USED_MASK;
            for (int c = 0; c < USED_CUES; c++) {
                rules = rules << USED_CUES | (cues.followers[c] & USED_MASK);
            }
            if (rules == rulesOfSum) {
                return;
            }
            rulesOfSum = rules;
            for (int c = 0; c < USED_CUES; c++) {
                trees[c].setNothingOrLeaf();
            }
            for (int height = 1; height < LONGEST; height++) {
                growTrees(cues);
            }
            sumTrees(cues.firsts);
        }

        private void growTrees(Cues cues) {
            for (int c = 0; c < USED_CUES; c++) {
                int twin = twinOf(c, cues);
                if (twin < c) {
                    taller[c].setLike(taller[twin]);
                } else {
                    sumTrees(cues.followers[c]);
                    taller[c].setTree(sum);
                }
            }
            for (int c = 0; c < USED_CUES; c++) {
                Shapes low = trees[c];
                trees[c] = taller[c];
                taller[c] = low;
            }
        }

        /** The first cue with the same followers; what it begins is alike, and dear to find. */
        private static int twinOf(int c, Cues cues) {
            int twin = 0;
            while (twin < c && ((cues.followers[twin] ^ cues.followers[c]) & USED_MASK) != 0) {
                twin++;
            }
            return twin;
        }

        private void sumTrees(int cueBits) {
            sum.setNothing();
            for (int c = 0; c < USED_CUES; c++) {
                if ((cueBits >> c & 1) == 1) {
                    spareSum.setSums(sum, trees[c], seen);
                    Shapes old = sum;
                    sum = spareSum;
                    spareSum = old;
                }
            }
        }

        /** The least sum in two kinds, or NONE; the kinds are kept if there is one. */
        int part(int n, int[] likes) {
            int all = (1 << n) - 1;
            for (int set = 1; set < all; set++) {
                partCosts[set] = leastCostOfSet(set, n, likes);
            }
            int least = NONE;
            int second = 0;
            // Thing 0 has the highest bit, so that lesser sets are lesser rows of kinds.
            for (int set = 1; set <= all >> 1; set++) {
                int one = partCosts[set];
                int other = partCosts[all ^ set];
                if (one >= 0 && other >= 0 && (least < 0 || one + other < least)) {
                    least = one + other;
                    second = set;
                }
            }
            if (least < 0) {
                return NONE;
            }
            for (int t = 0; t < n; t++) {
                kinds[t] = second >> (n - 1 - t) & 1;
                least += likes[t];
            }
            kindsCount = n;
            return least;
        }

        private int leastCostOfSet(int set, int n, int[] likes) {
            int size = 0;
            for (int t = 0; t < n; t++) {
                if ((set >> (n - 1 - t) & 1) == 1) {
                    weights[size] = likes[t];
                    size++;
                }
            }
            return leastCost(size);
        }
    }

    /** What spies know by their nights. Only how often a cue was told as a digit is kept of these. */
    private static final class Spies {
        static final int MOST_NIGHTS = 40;
        static final int MOST_MISHEARD = 6;
        static final int MASKS = 256;
        static final int TOO_MANY = 1000000;

        final int[] toldAs = new int[CUES * CUES];
        final int[] toldOf = new int[CUES];
        int nights;
        int most;
        final int[] bookCounts = new int[MASKS * (MOST_MISHEARD + 1)];
        /** By digits that are used: the least wrong ones of the cues below, and of the others. */
        final int[] ahead = new int[MASKS];
        final int[] behind = new int[MASKS];
        final int[] setSizes = new int[MASKS];
        final long[] sets = new long[MASKS];
        long fewSet;

        int takeNight(Tape tape) {
            int n = tape.size / 2;
            if (tape.size % 2 == 0 || n < 1 || n > LONGEST_ROW || tape.bytes[n] != ' ') {
                return NONE;
            }
            for (int i = 0; i < n; i++) {
                int cue = tape.bytes[i] - 'A';
                int digit = tape.bytes[n + 1 + i] - '0';
                if (cue < 0 || cue >= CUES || digit < 0 || digit >= CUES) {
                    return NONE;
                }
            }
            if (nights >= MOST_NIGHTS) {
                return FULL;
            }
            for (int i = 0; i < n; i++) {
                tellOnce(tape.bytes[i] - 'A', tape.bytes[n + 1 + i] - '0', 1);
            }
            nights++;
            return nights - 1;
        }

        private void tellOnce(int cue, int digit, int times) {
            toldAs[cue * CUES + digit] += times;
            toldOf[cue] += times;
        }

        /** Tells a thing's row with these digits (1), or takes that back (-1). */
        void note(Things things, int t, int[] digits, int times) {
            for (int i = 0; i < things.rowSizes[t]; i++) {
                int cue = things.rows[t * LONGEST_ROW + i];
                tellOnce(cue, digits[cue], times);
            }
        }

        int setMisheard(int n) {
            if (n < 0 || n > MOST_MISHEARD) {
                return RANGE;
            }
            int old = most;
            most = n;
            return old;
        }

        private int wrongIf(int cue, int digit) {
            return toldOf[cue] - toldAs[cue * CUES + digit];
        }

        /** How many books fit: cue by cue, by the digits that are used and by how many are wrong. */
        int fitting() {
            int step = MOST_MISHEARD + 1;
            Arrays.fill(bookCounts, 0);
            bookCounts[0] = 1;
            for (int mask = 0; mask < MASKS - 1; mask++) {
                int cue = Integer.bitCount(mask);
                for (int digit = 0; digit < CUES; digit++) {
                    int next = mask | 1 << digit;
                    int wrong = wrongIf(cue, digit);
                    for (int w = 0; next != mask && w + wrong <= most; w++) {
                        bookCounts[next * step + w + wrong] += bookCounts[mask * step + w];
                    }
                }
            }
            int sum = 0;
            for (int w = 0; w <= most; w++) {
                sum += bookCounts[(MASKS - 1) * step + w];
            }
            return sum;
        }

        private void findLeastWrong() {
            Arrays.fill(ahead, TOO_MANY);
            Arrays.fill(behind, TOO_MANY);
            ahead[0] = 0;
            behind[MASKS - 1] = 0;
            for (int mask = 0; mask < MASKS - 1; mask++) {
                int cue = Integer.bitCount(mask);
                int mirror = MASKS - 2 - mask;
                int mirrorCue = Integer.bitCount(mirror);
                for (int digit = 0; digit < CUES; digit++) {
                    int next = mask | 1 << digit;
                    if (next != mask) {
                        ahead[next] = Math.min(ahead[next], ahead[mask] + wrongIf(cue, digit));
                    }
                    int mirrorNext = mirror | 1 << digit;
                    if (mirrorNext != mirror) {
                        behind[mirror] = Math.min(behind[mirror],
                                behind[mirrorNext] + wrongIf(mirrorCue, digit));
                    }
                }
            }
        }

        int sureDigit(int k) {
            findLeastWrong();
            return sureDigitOf(k);
        }

        /** The one digit that a cue has in all books that fit, by the least wrong ones found. */
        private int sureDigitOf(int k) {
            int possible = 0;
            int latest = NONE;
            for (int mask = 0; mask < MASKS; mask++) {
                for (int digit = 0; Integer.bitCount(mask) == k && digit < CUES; digit++) {
                    int next = mask | 1 << digit;
                    boolean fits = next != mask
                            && ahead[mask] + wrongIf(k, digit) + behind[next] <= most;
                    if (fits) {
                        possible |= 1 << digit;
                        latest = digit;
                    }
                }
            }
            return Integer.bitCount(possible) == 1 ? latest : NONE;
        }

        /** Puts the new book in place of the old one: how many cues have another digit. */
        int renewBook(int[] digits) {
            findLeastWrong();
            int banned = 0;
            for (int k = 0; k < CUES; k++) {
                // A nibble a cue: its sure digit, or 8 for none.
                int sureOne = sureDigitOf(k);
                banned |= (sureOne < 0 ? CUES : sureOne) << (4 * k);
            }
            findLeastChanges(digits, banned);
            int changed = behind[0];
            int mask = 0;
            for (int k = 0; k < CUES; k++) {
                int digit = leastDigit(k, mask, digits[k], banned);
                digits[k] = digit;
                mask |= 1 << digit;
            }
            return changed;
        }

        private static int changeTo(int k, int digit, int old, int banned) {
            if ((banned >>> (4 * k) & 15) == digit) {
                return TOO_MANY;
            }
            return digit == old ? 0 : 1;
        }

        private void findLeastChanges(int[] digits, int banned) {
            Arrays.fill(behind, TOO_MANY);
            behind[MASKS - 1] = 0;
            for (int mask = MASKS - 2; mask >= 0; mask--) {
                int k = Integer.bitCount(mask);
                for (int digit = 0; digit < CUES; digit++) {
                    int next = mask | 1 << digit;
                    if (next != mask) {
                        int changes = behind[next] + changeTo(k, digit, digits[k], banned);
                        behind[mask] = Math.min(behind[mask], changes);
                    }
                }
            }
        }

        private int leastDigit(int k, int mask, int old, int banned) {
            for (int digit = 0; digit < CUES; digit++) {
                int next = mask | 1 << digit;
                if (next != mask && behind[next] + changeTo(k, digit, old, banned) == behind[mask]) {
                    return digit;
                }
            }
            return old;
        }

        int fewestRows(Things things) {
            int start = 0;
            for (int k = 0; k < CUES; k++) {
                start |= toldOf[k] > 0 ? 1 << k : 0;
            }
            Arrays.fill(setSizes, TOO_MANY);
            Arrays.fill(sets, 0);
            setSizes[start] = 0;
            for (int t = 0; t < things.size; t++) {
                addToSets(t, maskOfRow(things, t));
            }
            int best = NONE;
            for (int mask = 0; mask < MASKS; mask++) {
                boolean tells = Integer.bitCount(mask) >= CUES - 1 && setSizes[mask] < TOO_MANY;
                if (tells && (best < 0 || isLessSet(setSizes[mask], sets[mask], best))) {
                    best = mask;
                }
            }
            if (best < 0) {
                return NONE;
            }
            fewSet = sets[best];
            return setSizes[best];
        }

        private static int maskOfRow(Things things, int t) {
            int mask = 0;
            for (int i = 0; i < things.rowSizes[t]; i++) {
                mask |= 1 << things.rows[t * LONGEST_ROW + i];
            }
            return mask;
        }

        private boolean isLessSet(int size, long set, int than) {
            return size < setSizes[than] || (size == setSizes[than] && set < sets[than]);
        }

        private void addToSets(int t, int rowMask) {
            // A set that has this thing already never gets better by it: its mask stays.
            for (int mask = 0; mask < MASKS; mask++) {
                int next = mask | rowMask;
                long set = sets[mask] | 1L << t;
                if (setSizes[mask] < TOO_MANY && next != mask
                        && isLessSet(setSizes[mask] + 1, set, next)) {
                    setSizes[next] = setSizes[mask] + 1;
                    sets[next] = set;
                }
            }
        }
    }

    /** A text of manners, read into tokens. */
    private static final class Manners {
        static final int NAMES = 8;
        static final int MOST_ITEMS = 120;
        static final int DEEPEST = 4;

        static final int SYNTAX = 1;
        static final int TWICE = 2;
        static final int ORDER = 3;
        static final int ROOM = 4;

        /** Tokens: below OPEN a word's number, from FIRST_NAME on a name. */
        static final int OPEN = MOST_ITEMS;
        static final int BAR = OPEN + 1;
        static final int CLOSE = OPEN + 2;
        static final int FINISH = OPEN + 3;
        static final int FIRST_NAME = OPEN + 4;

        static final int BETWEEN = 0;
        static final int NAMED = 1;
        static final int IN_ROW = 2;

        final int[] text = new int[Tape.MOST];
        int textSize;
        final int[] wordStarts = new int[MOST_ITEMS];
        final int[] wordSizes = new int[MOST_ITEMS];
        int words;
        final int[] tokens = new int[Tape.MOST];
        int tokenCount;
        /** Where the rule of a name begins among the tokens; -1: it has none. */
        final int[] ruleStarts = new int[NAMES];
        int rules;
        int items;
        int state;
        int name;
        int open;
        int place;
        int tokenSize;

        Manners() {
            Arrays.fill(ruleStarts, -1);
        }

        /** Reads the text: 0, or the kind of its fault, which is at `place`. */
        int parse(Tape tape) {
            System.arraycopy(tape.bytes, 0, text, 0, tape.size);
            textSize = tape.size;
            Arrays.fill(ruleStarts, -1);
            words = 0;
            tokenCount = 0;
            rules = 0;
            items = 0;
            open = 0;
            state = BETWEEN;
            for (place = 0; place < textSize; place += Math.max(tokenSize, 1)) {
                tokenSize = 1;
                int kind = takeToken(text[place]);
                if (kind != 0) {
                    return kind;
                }
            }
            return state == BETWEEN ? 0 : SYNTAX;
        }

        private int takeToken(int b) {
            if (b == ' ' || b == 10) {
                return 0;
            }
            if (b >= 'a' && b <= 'z') {
                return takeWord();
            }
            if (b >= 'A' && b < 'A' + NAMES) {
                return takeName(b - 'A');
            }
            return takeSign(b);
        }

        private int takeWord() {
            int to = place;
            while (to < textSize && text[to] >= 'a' && text[to] <= 'z') {
                to++;
            }
            tokenSize = to - place;
            if (state != IN_ROW || tokenSize > LONGEST_WORD) {
                return SYNTAX;
            }
            if (items >= MOST_ITEMS) {
                return ROOM;
            }
            items++;
            addToken(numberOfWord());
            return 0;
        }

        private int numberOfWord() {
            int number = wordIn(text, place, tokenSize);
            if (number >= 0) {
                return number;
            }
            wordStarts[words] = place;
            wordSizes[words] = tokenSize;
            words++;
            return words - 1;
        }

        /** The number of the word that stands in a text, or NONE. */
        int wordIn(int[] other, int from, int size) {
            for (int w = 0; w < words; w++) {
                int same = 0;
                while (wordSizes[w] == size && same < size
                        && text[wordStarts[w] + same] == other[from + same]) {
                    same++;
                }
                if (same == size) {
                    return w;
                }
            }
            return NONE;
        }

        private int takeName(int n) {
            if (state == NAMED) {
                return SYNTAX;
            }
            if (state == BETWEEN) {
                name = n;
                state = NAMED;
                return ruleStarts[n] >= 0 ? TWICE : 0;
            }
            if (n <= name) {
                return ORDER;
            }
            if (items >= MOST_ITEMS) {
                return ROOM;
            }
            items++;
            addToken(FIRST_NAME + n);
            return 0;
        }

        private int takeSign(int b) {
            if (b == '=' && state == NAMED) {
                ruleStarts[name] = tokenCount;
                state = IN_ROW;
                return 0;
            }
            if (state != IN_ROW) {
                return SYNTAX;
            }
            if (b == '|') {
                addToken(BAR);
                return 0;
            }
            if (b == '[') {
                return takeOpen();
            }
            if (b == ']' && open > 0) {
                open--;
                addToken(CLOSE);
                return 0;
            }
            if (b == ';' && open == 0) {
                addToken(FINISH);
                state = BETWEEN;
                rules++;
                return 0;
            }
            return SYNTAX;
        }

        private int takeOpen() {
            if (open >= DEEPEST || items >= MOST_ITEMS) {
                return ROOM;
            }
            open++;
            items++;
            addToken(OPEN);
            return 0;
        }

        private void addToken(int token) {
            tokens[tokenCount] = token;
            tokenCount++;
        }

        /** Below 0 if word a comes ahead of word b, a begin being ahead of the longer. */
        int compareWords(int a, int b) {
            int both = Math.min(wordSizes[a], wordSizes[b]);
            for (int i = 0; i < both; i++) {
                int by = text[wordStarts[a] + i] - text[wordStarts[b] + i];
                if (by != 0) {
                    return by;
                }
            }
            return wordSizes[a] - wordSizes[b];
        }
    }

    /** How many questions manners allow, and whether one is among them. */
    private static final class Ways {
        static final int MOST_WORDS = 60;
        static final int PLACES = MOST_WORDS + 1;
        static final int LEVELS = Manners.DEEPEST + 1;
        static final long MOST_WAYS = 1000000000000L;
        /** Stands for all numbers above what is told. */
        static final long BEYOND = MOST_WAYS + 1;

        /** By level of [ and number of words: the ways up to here, and by all rows that are ended. */
        final long[] here = new long[LEVELS * PLACES];
        final long[] done = new long[LEVELS * PLACES];
        final long[] product = new long[PLACES];
        final long[] numbers = new long[Manners.NAMES * PLACES];
        boolean isCounted;
        /** By word, the places at which the question has it, as bits. */
        final long[] wordPlaces = new long[Manners.MOST_ITEMS];
        /** By name and place, the places at which what it stands for can end, as bits. */
        final long[] ends = new long[Manners.NAMES * PLACES];
        final long[] hereBits = new long[LEVELS];
        final long[] doneBits = new long[LEVELS];

        void forget() {
            isCounted = false;
        }

        long number(Manners manners, int n) {
            if (!isCounted) {
                Arrays.fill(numbers, 0);
                for (int name = Manners.NAMES - 1; name >= 0; name--) {
                    countName(manners, name);
                }
                isCounted = true;
            }
            return numbers[n];
        }

        private void countName(Manners manners, int name) {
            int start = manners.ruleStarts[name];
            if (start < 0) {
                return;
            }
            int level = 0;
            Arrays.fill(done, 0, PLACES, 0);
            beginRow(0);
            for (int i = start; i < manners.tokenCount; i++) {
                int token = manners.tokens[i];
                if (token < Manners.OPEN) {
                    countWord(level);
                } else if (token >= Manners.FIRST_NAME) {
                    countPart(level, token - Manners.FIRST_NAME);
                } else if (token == Manners.OPEN && level < LEVELS - 1) {
                    level++;
                    beginRow(level);
                    System.arraycopy(here, level * PLACES, done, level * PLACES, PLACES);
                } else {
                    endRow(level);
                    if (token == Manners.FINISH) {
                        break;
                    }
                    if (token == Manners.BAR) {
                        beginRow(level);
                    } else if (token == Manners.CLOSE && level > 0) {
                        level--;
                        System.arraycopy(done, (level + 1) * PLACES, here, level * PLACES, PLACES);
                    }
                }
            }
            System.arraycopy(done, 0, numbers, name * PLACES, PLACES);
        }

        /** A row goes on from what stands ahead of its [, or from nothing. */
        private void beginRow(int level) {
            if (level > 0) {
                System.arraycopy(here, (level - 1) * PLACES, here, level * PLACES, PLACES);
            } else {
                Arrays.fill(here, 0, PLACES, 0);
                here[0] = 1;
            }
        }

        private void endRow(int level) {
            for (int n = level * PLACES; n < (level + 1) * PLACES; n++) {
                done[n] = Math.min(done[n] + here[n], BEYOND);
            }
        }

        private void countWord(int level) {
            int from = level * PLACES;
            System.arraycopy(here, from, here, from + 1, PLACES - 1);
            here[from] = 0;
        }

        private void countPart(int level, int part) {
            int from = level * PLACES;
            Arrays.fill(product, 0);
            for (int n = 0; n < PLACES; n++) {
                for (int m = 0; here[from + n] > 0 && m + n < PLACES; m++) {
                    long both = times(here[from + n], numbers[part * PLACES + m]);
                    product[n + m] = Math.min(product[n + m] + both, BEYOND);
                }
            }
            System.arraycopy(product, 0, here, from, PLACES);
        }

        private static long times(long a, long b) {
            if (a <= 0 || b <= 0) {
                return 0;
            }
            return a > BEYOND / b ? BEYOND : Math.min(a * b, BEYOND);
        }

        /** Whether the words that the tape was split into are a mannerly question. */
        boolean match(Manners manners, Tape tape) {
            int n = Math.min(tape.words, MOST_WORDS);
            Arrays.fill(wordPlaces, 0);
            for (int i = 0; i < n; i++) {
                int word = manners.wordIn(tape.bytes, tape.wordStarts[i], tape.wordSizes[i]);
                if (word >= 0) {
                    wordPlaces[word] |= 1L << i;
                }
            }
            Arrays.fill(ends, 0);
            for (int name = Manners.NAMES - 1; name > 0; name--) {
                for (int i = 0; i <= n && manners.ruleStarts[name] >= 0; i++) {
                    ends[name * PLACES + i] = endsFrom(manners, name, i);
                }
            }
            return (endsFrom(manners, 0, 0) >> n & 1) == 1;
        }

        private long endsFrom(Manners manners, int name, int place) {
            int start = manners.ruleStarts[name];
            if (start < 0) {
                return 0;
            }
            int level = 0;
            hereBits[0] = 1L << place;
            doneBits[0] = 0;
            for (int i = start; i < manners.tokenCount; i++) {
                int token = manners.tokens[i];
                if (token < Manners.OPEN) {
                    hereBits[level] = (hereBits[level] & wordPlaces[token]) << 1;
                } else if (token >= Manners.FIRST_NAME) {
                    hereBits[level] = endsOfPart(token - Manners.FIRST_NAME, hereBits[level]);
                } else if (token == Manners.OPEN && level < LEVELS - 1) {
                    level++;
                    hereBits[level] = hereBits[level - 1];
                    doneBits[level] = hereBits[level];
                } else {
                    doneBits[level] |= hereBits[level];
                    if (token == Manners.FINISH) {
                        break;
                    }
                    if (token == Manners.BAR) {
                        hereBits[level] = level > 0 ? hereBits[level - 1] : 1L << place;
                    } else if (token == Manners.CLOSE && level > 0) {
                        level--;
                        hereBits[level] = doneBits[level + 1];
                    }
                }
            }
            return doneBits[0];
        }

        private long endsOfPart(int part, long from) {
            long to = 0;
            for (int i = 0; i < PLACES && from >> i != 0; i++) {
                if ((from >> i & 1) == 1) {
                    to |= ends[part * PLACES + i];
                }
            }
            return to;
        }
    }

    /** Makes the question of the fewest words that carries a row. Questions are held in slots. */
    private static final class Maker {
        static final int CUTS = LONGEST_ROW + 1;
        /** Pairs of a begin and an end within a row. */
        static final int PAIRS = CUTS * (CUTS + 1) / 2;
        static final int HERE = Manners.NAMES * PAIRS;
        static final int DONE = HERE + Ways.LEVELS * CUTS;
        static final int NEXT = DONE + Ways.LEVELS * CUTS;
        static final int TRIAL = NEXT + CUTS;
        static final int SLOTS = TRIAL + 1;
        static final int WIDTH = Ways.MOST_WORDS;

        final int[] slots = new int[SLOTS * WIDTH];
        /** How many words a slot has; -1: there is no question in it. */
        final int[] sizes = new int[SLOTS];
        final int[] row = new int[LONGEST_ROW];
        int rowSize;
        final int[] cueOfWord = new int[Manners.MOST_ITEMS];
        final int[] text = new int[WIDTH * (LONGEST_WORD + 1)];
        int textSize;

        int makeFor(Tape tape, Manners manners, Cues cues) {
            int n = tape.rowInto(row);
            if (n < 0) {
                return NONE;
            }
            rowSize = n;
            for (int w = 0; w < manners.words; w++) {
                cueOfWord[w] = cues.cueOf(manners.text, manners.wordStarts[w], manners.wordSizes[w]);
            }
            Arrays.fill(sizes, -1);
            for (int name = Manners.NAMES - 1; name >= 0; name--) {
                // What A stands for is needed for the whole row alone.
                for (int from = 0; from <= (name == 0 ? 0 : rowSize); from++) {
                    findBest(manners, name, from);
                }
            }
            int found = ruleSlot(0, 0, rowSize);
            if (sizes[found] < 0) {
                return FULL;
            }
            writeText(found, manners);
            return sizes[found];
        }

        private static int ruleSlot(int name, int from, int to) {
            return name * PAIRS + to * (to + 1) / 2 + from;
        }

        /** The best questions of what a name stands for, for each part of the row from a cut on. */
        private void findBest(Manners manners, int name, int from) {
            int start = manners.ruleStarts[name];
            if (start < 0) {
                return;
            }
            int level = 0;
            setNone(DONE);
            beginRow(0, from);
            for (int i = start; i < manners.tokenCount; i++) {
                int token = manners.tokens[i];
                if (token < Manners.OPEN) {
                    addWord(level, token);
                } else if (token >= Manners.FIRST_NAME) {
                    addPart(level, token - Manners.FIRST_NAME, from, manners);
                } else if (token == Manners.OPEN && level < Ways.LEVELS - 1) {
                    level++;
                    beginRow(level, from);
                    copyCuts(HERE + level * CUTS, DONE + level * CUTS);
                } else {
                    endRow(level, manners);
                    if (token == Manners.FINISH) {
                        break;
                    }
                    if (token == Manners.BAR) {
                        beginRow(level, from);
                    } else if (token == Manners.CLOSE && level > 0) {
                        level--;
                        copyCuts(DONE + (level + 1) * CUTS, HERE + level * CUTS);
                    }
                }
            }
            for (int to = from; to <= rowSize; to++) {
                copySlot(DONE + to, ruleSlot(name, from, to));
            }
        }

        private void setNone(int firstSlot) {
            Arrays.fill(sizes, firstSlot, firstSlot + CUTS, -1);
        }

        private void copySlot(int from, int to) {
            sizes[to] = sizes[from];
            if (sizes[from] > 0) {
                System.arraycopy(slots, from * WIDTH, slots, to * WIDTH, sizes[from]);
            }
        }

        private void copyCuts(int from, int to) {
            for (int cut = 0; cut <= rowSize; cut++) {
                copySlot(from + cut, to + cut);
            }
        }

        /** A row goes on from what stands ahead of its [, or from nothing. */
        private void beginRow(int level, int from) {
            if (level > 0) {
                copyCuts(HERE + (level - 1) * CUTS, HERE + level * CUTS);
            } else {
                setNone(HERE);
                sizes[HERE + from] = 0;
            }
        }

        private void endRow(int level, Manners manners) {
            int here = HERE + level * CUTS;
            int done = DONE + level * CUTS;
            for (int cut = 0; cut <= rowSize; cut++) {
                if (isBetter(here + cut, done + cut, manners)) {
                    copySlot(here + cut, done + cut);
                }
            }
        }

        private boolean isBetter(int a, int b, Manners manners) {
            if (sizes[a] < 0 || sizes[b] < 0 || sizes[a] != sizes[b]) {
                return sizes[a] >= 0 && (sizes[b] < 0 || sizes[a] < sizes[b]);
            }
            for (int i = 0; i < sizes[a]; i++) {
                int wordA = slots[a * WIDTH + i];
                int wordB = slots[b * WIDTH + i];
                if (wordA != wordB) {
                    return manners.compareWords(wordA, wordB) < 0;
                }
            }
            return false;
        }

        private void addWord(int level, int word) {
            int here = HERE + level * CUTS;
            int cue = cueOfWord[word];
            if (cue < 0) {
                for (int cut = 0; cut <= rowSize; cut++) {
                    append(here + cut, word);
                }
                return;
            }
            for (int cut = rowSize; cut > 0; cut--) {
                if (row[cut - 1] == cue) {
                    copySlot(here + cut - 1, here + cut);
                    append(here + cut, word);
                } else {
                    sizes[here + cut] = -1;
                }
            }
            sizes[here] = -1;
        }

        private void append(int slot, int word) {
            int size = sizes[slot];
            if (size >= WIDTH) {
                sizes[slot] = -1;
            } else if (size >= 0) {
                slots[slot * WIDTH + size] = word;
                sizes[slot] = size + 1;
            }
        }

        private void addPart(int level, int part, int from, Manners manners) {
            int here = HERE + level * CUTS;
            setNone(NEXT);
            for (int to = from; to <= rowSize; to++) {
                for (int mid = from; mid <= to; mid++) {
                    join(here + mid, ruleSlot(part, mid, to));
                    if (isBetter(TRIAL, NEXT + to, manners)) {
                        copySlot(TRIAL, NEXT + to);
                    }
                }
            }
            copyCuts(NEXT, here);
        }

        /** Tries two questions as one: none if one of them is, or it would be too long. */
        private void join(int one, int other) {
            sizes[TRIAL] = -1;
            if (sizes[one] < 0 || sizes[other] < 0 || sizes[one] + sizes[other] > WIDTH) {
                return;
            }
            copySlot(one, TRIAL);
            System.arraycopy(slots, other * WIDTH, slots, TRIAL * WIDTH + sizes[one], sizes[other]);
            sizes[TRIAL] = sizes[one] + sizes[other];
        }

        private void writeText(int slot, Manners manners) {
            textSize = 0;
            for (int i = 0; i < sizes[slot]; i++) {
                int word = slots[slot * WIDTH + i];
                if (i > 0) {
                    text[textSize] = ' ';
                    textSize++;
                }
                int size = manners.wordSizes[word];
                System.arraycopy(manners.text, manners.wordStarts[word], text, textSize, size);
                textSize += size;
            }
        }
    }

    /** Turns of shows, and the steps by which they became known. */
    private static final class Shows {
        static final int MOST_TURNS = 100;
        static final int MOST_STEPS = 300;

        final int[] answers = new int[MOST_TURNS];
        final int[] firstSteps = new int[MOST_TURNS];
        int turns;
        final int[] stepTurns = new int[MOST_STEPS];
        final int[] stepThings = new int[MOST_STEPS];
        int steps;
        final int[] known = new int[MOST_TURNS];
        final int[] tallies = new int[Things.MOST];

        int addTurn(int t, int answer) {
            if (turns >= MOST_TURNS || steps >= MOST_STEPS) {
                return FULL;
            }
            answers[turns] = answer;
            firstSteps[turns] = steps;
            turns++;
            addStep(turns - 1, t);
            return turns - 1;
        }

        int addStep(int turn, int t) {
            if (steps >= MOST_STEPS) {
                return FULL;
            }
            stepTurns[steps] = turn;
            stepThings[steps] = t;
            steps++;
            return steps - 1;
        }

        /** Finds each turn's thing as known at a step: how many turns there are by then. */
        private int recall(int step) {
            int by = 0;
            for (int s = 0; s <= step; s++) {
                known[stepTurns[s]] = stepThings[s];
                by = Math.max(by, stepTurns[s] + 1);
            }
            return by;
        }

        int tellTurn(int i, int step, int what) {
            if (i < 0 || i >= turns || step < firstSteps[i] || step >= steps) {
                return NO_SUCH;
            }
            switch (what) {
                case 0:
                    recall(step);
                    return known[i];
                case 1:
                    return answers[i];
                case 2:
                    recall(step);
                    return known[i] == answers[i] ? 1 : 0;
                case 3:
                    return firstSteps[i];
                default:
                    return NO_SUCH;
            }
        }

        int tellTally(int step, int what, int things) {
            if (step < 0 || step >= steps) {
                return NO_SUCH;
            }
            int by = recall(step);
            if (what == 0) {
                return by;
            }
            if (what == 1) {
                return rightOnes(by);
            }
            if (what == 2) {
                return timesIn(answers, by, NONE);
            }
            if (what >= 10 && what < 10 + things) {
                return timesIn(known, by, what - 10);
            }
            return NO_SUCH;
        }

        private int rightOnes(int by) {
            int sum = 0;
            for (int i = 0; i < by; i++) {
                sum += answers[i] == known[i] ? 1 : 0;
            }
            return sum;
        }

        private static int timesIn(int[] row, int size, int wanted) {
            int sum = 0;
            for (int i = 0; i < size; i++) {
                sum += row[i] == wanted ? 1 : 0;
            }
            return sum;
        }

        /** Finds the tally of each thing, as known now. */
        void tallyAll() {
            Arrays.fill(tallies, 0);
            int by = recall(steps - 1);
            for (int i = 0; i < by; i++) {
                tallies[known[i]]++;
            }
        }
    }
}
