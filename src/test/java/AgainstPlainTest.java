import java.lang.reflect.InvocationTargetException;
import java.lang.reflect.Method;
import java.util.ArrayList;
import java.util.HashMap;
import java.util.List;
import java.util.Map;
import java.util.Random;

/** Runs of calls by chance (seeded) on StagePair and on Plain; each answer must be the same. */
public final class AgainstPlainTest {
    private static final String[] POOL = {"a", "b", "please", "now", "well", "sir", "tell", "what",
        "quick", "so", "sop", "pleased", "abcdefghijkl", "z"};
    private static final String[] THEMES = {
        // names of calls, more often the more often they stand here
        "word word letter may first ask ask asked asked asked row row thing about means heard count end feed",
        "thing row row row row row about about about cost word ask ask means heard heard may first count",
        "thing thing shortest shortest length length inTwo inTwo kind kind may may may first first count",
        "night night night misheard fits sure sure renew digit book away thing row fewest few row count",
        "word word word book spell spelled spelled ask ask read read list list coughs coughs nearest count",
        "manners manners fault fault mannerly mannerly mannerly questions questions word make make made made",
        "manners make make make made made made word word word questions mannerly",
        "word word thing row row row lost mistaken mistaken lost ask ask ask chance chance likeliest share share",
        "bookOn bookOn bookOn digitOn digitOn digitOn digitOn digit count",
        "word word thing row row ask ask lost mistaken turnOf turnOf turnOf putRight putRight shown shown"
            + " shown tally tally tally regret regret may first count length shortest",
        "row row thing row row fewest few night fewest few away misheard book",
    };

    private final Random random;
    private final StagePair real = new StagePair();
    private final Plain plain = new Plain();
    private final List<String> log = new ArrayList<>();
    private final Map<String, Method> reals = new HashMap<>();
    private final Map<String, Method> plains = new HashMap<>();
    private final String secret;
    private final int letters;
    private boolean wrong = false;

    private AgainstPlainTest(long seed) {
        random = new Random(seed);
        for (Method m : StagePair.class.getDeclaredMethods()) {
            if (java.lang.reflect.Modifier.isPublic(m.getModifiers())) {
                reals.put(m.getName(), m);
            }
        }
        for (Method m : Plain.class.getDeclaredMethods()) {
            if (reals.containsKey(m.getName()) && same(m, reals.get(m.getName()))) {
                m.setAccessible(true);
                plains.put(m.getName(), m);
            }
        }
        secret = bookText();
        letters = 2 + random.nextInt(7);
    }

    private static boolean same(Method a, Method b) {
        return java.util.Arrays.equals(a.getParameterTypes(), b.getParameterTypes())
            && !java.lang.reflect.Modifier.isStatic(a.getModifiers());
    }

    public static void main(String[] args) throws Exception {
        long from = args.length > 0 ? Long.parseLong(args[0]) : 1;
        long runs = args.length > 1 ? Long.parseLong(args[1]) : 660;
        int bad = 0;
        for (long seed = from; seed < from + runs && bad < 3; seed++) {
            AgainstPlainTest t = new AgainstPlainTest(seed);
            t.run(THEMES[(int) (seed % THEMES.length)].split(" "));
            if (t.wrong) {
                bad++;
                System.out.println("seed " + seed + ":");
                for (String l : t.log.subList(Math.max(0, t.log.size() - 60), t.log.size())) {
                    System.out.println("  " + l);
                }
            }
        }
        if (bad > 0) {
            System.exit(1);
        }
        System.out.println("AgainstPlainTest: " + runs + " runs are alike");
    }

    private void run(String[] theme) throws Exception {
        int calls = 40 + random.nextInt(200);
        if (theme[0].equals("word") || theme[0].equals("manners") || odds(20)) {
            nameCues();
        }
        if (theme[2].equals("shortest") && odds(70)) {
            fewCues();
        }
        // An object is used for 512 calls; a text takes up to 22 of them.
        for (int i = 0; i < calls && log.size() < 480 && !wrong; i++) {
            step(theme[random.nextInt(theme.length)]);
        }
        for (int what = 0; what <= 10 && !wrong; what++) {
            call("count", what);
        }
    }

    /** Two or three cues alone make ties of shortest rows. */
    private void fewCues() throws Exception {
        int from = 2 + random.nextInt(2);
        for (int k = from; k < 4; k++) {
            call("first", k, false);
            for (int j = 0; j < 4; j++) {
                call("may", k, j, false);
            }
        }
        for (int t = 0; t < 7; t++) {
            call("thing", 1 + random.nextInt(5));
        }
    }

    /** Mostly all cues have words, as questions have few cues without. */
    private void nameCues() throws Exception {
        for (int k = 0; k < letters && odds(97); k++) {
            put(POOL[k]);
            call("word", k);
        }
    }

    private Object call(String name, Object... args) throws Exception {
        Object a;
        try {
            a = reals.get(name).invoke(real, args);
        } catch (InvocationTargetException e) {
            a = "threw " + e.getCause();
        }
        Object b = plains.get(name).invoke(plain, args);
        boolean alike = a.equals(b);
        log.add(name + java.util.Arrays.toString(args) + " answered " + a + (alike ? "" : ", due is " + b));
        wrong |= !alike;
        return b;
    }

    private void put(String text) throws Exception {
        call("end", 0);
        for (int i = 0; i < text.length(); i += 20) {
            Object[] five = new Object[5];
            for (int j = 0; j < 5; j++) {
                int v = 0;
                for (int k = 0; k < 4; k++) {
                    int at = i + 4 * j + k;
                    v = v << 8 | (at < text.length() ? text.charAt(at) : random.nextInt(256));
                }
                five[j] = v;
            }
            call("feed", five);
        }
        call("end", text.length());
        log.add("   tape: '" + text + "'");
    }

    private boolean odds(int percent) {
        return random.nextInt(100) < percent;
    }

    private int near(int low, int high) {
        if (odds(1)) {
            int[] far = {Integer.MIN_VALUE, Integer.MAX_VALUE, -1, 1 << 30, Integer.MIN_VALUE + 9, 64, 1000};
            return far[random.nextInt(far.length)];
        }
        if (odds(4)) {
            return odds(50) ? low - 1 : high + 1;
        }
        return low + random.nextInt(Math.max(1, high - low + 1));
    }

    private int thing() {
        return near(0, Math.max(0, plain.likes.size() - 1));
    }

    private int cue() {
        return near(0, 7);
    }

    private void step(String name) throws Exception {
        switch (name) {
            case "feed":
                call(name, random.nextInt(), random.nextInt(), random.nextInt(), random.nextInt(), random.nextInt());
                break;
            case "end":
                call(name, near(0, plain.tape.length()));
                break;
            case "word":
                put(mangled(odds(85) ? POOL[random.nextInt(POOL.length)] : letters(1 + random.nextInt(13), 26)));
                call(name, odds(80) ? random.nextInt(letters) : cue());
                break;
            case "letter":
                call(name, cue(), near(0, 12));
                break;
            case "may":
                call(name, odds(60) ? random.nextInt(4) : cue(), odds(60) ? random.nextInt(4) : cue(), odds(40));
                break;
            case "first":
                call(name, odds(60) ? random.nextInt(4) : cue(), odds(40));
                break;
            case "book":
                put(mangled(bookText()));
                call(name);
                break;
            case "digit":
            case "sure":
                call(name, cue());
                break;
            case "ask":
                put(mangled(question()));
                call(name);
                break;
            case "asked":
                call(name, odds(20) ? 0 : (odds(50) ? 10 : 500) + near(0, plain.count(5)));
                break;
            case "thing":
                call(name, odds(50) ? near(1, 9) : near(1, 9999));
                break;
            case "row":
                if (plain.likes.size() < 3) {
                    call("thing", near(1, 30));
                }
                put(mangled(rowText(6)));
                call(name, thing());
                break;
            case "about":
                call(name, thing(), odds(70) ? random.nextInt(4) : 10 + near(0, 6));
                break;
            default:
                stepOn(name);
        }
    }

    private void stepOn(String name) throws Exception {
        switch (name) {
            case "shortest":
            case "regret":
                call(name, near(1, Math.min(7, Math.max(1, plain.likes.size()))));
                break;
            case "inTwo":
                call(name, near(2, Math.min(odds(80) ? 5 : 7, Math.max(2, plain.likes.size()))));
                break;
            case "length":
            case "kind":
                call(name, near(0, 7));
                break;
            case "night":
                put(mangled(nightText()));
                call(name);
                break;
            case "misheard":
                call(name, near(0, 6));
                break;
            case "spell":
                put(mangled(letters(1 + random.nextInt(odds(80) ? 8 : 41), 26)));
                call(name);
                break;
            case "spelled":
                call(name, near(0, plain.spelled.length()));
                break;
            case "read":
                call(name, near(0, plain.count(5)));
                break;
            case "list":
                put(mangled(letters(1 + random.nextInt(odds(70) ? 4 : 13), odds(50) ? 3 : 26)));
                call(name);
                break;
            case "coughs":
                call(name, near(0, plain.listed.size()));
                break;
            case "manners":
                put(mangled(new GrammarText(random).write()));
                call(name);
                break;
            case "fault":
                call(name, near(0, 1));
                break;
            case "mannerly":
                put(mangled(mannerText()));
                call(name);
                break;
            case "questions":
                call(name, odds(70) ? near(0, 6) : near(0, 60));
                break;
            case "make":
                put(mangled(rowToMake()));
                call(name);
                break;
            case "made":
                call(name, near(0, plain.madeText.length()));
                break;
            default:
                stepLast(name);
        }
    }

    private void stepLast(String name) throws Exception {
        switch (name) {
            case "lost":
                call(name, cue(), near(0, 30));
                break;
            case "mistaken":
                call(name, cue(), cue(), near(0, 5));
                break;
            case "chance":
            case "away":
            case "turnOf":
                call(name, thing());
                break;
            case "share":
                call(name, near(0, 1));
                break;
            case "bookOn":
                put(mangled(bookText()));
                int last = plain.days.isEmpty() ? 0 : plain.days.get(plain.days.size() - 1)[0];
                call(name, odds(85) ? last + random.nextInt(3) : near(0, 9999), odds(85) ? random.nextInt(12) : near(0, 9999));
                break;
            case "digitOn":
                call(name, cue(), odds(85) ? random.nextInt(14) : near(0, 9999), odds(85) ? random.nextInt(60) : near(0, 9999));
                break;
            case "putRight":
                call(name, near(0, Math.max(0, plain.answers.size() - 1)), thing());
                break;
            case "shown":
                call(name, near(0, Math.max(0, plain.answers.size() - 1)),
                    near(0, Math.max(0, plain.steps.size() - 1)), near(0, 3));
                break;
            case "tally":
                call(name, near(0, Math.max(0, plain.steps.size() - 1)), odds(50) ? near(0, 2) : 10 + thing());
                break;
            case "count":
                call(name, near(0, 9));
                break;
            default:
                call(name);
        }
    }

    // ---- texts

    private String letters(int size, int of) {
        StringBuilder s = new StringBuilder();
        for (int i = 0; i < size; i++) {
            s.append((char) ('a' + random.nextInt(of)));
        }
        return s.toString();
    }

    private String mangled(String text) {
        if (odds(93)) {
            return text.length() > 400 ? text.substring(0, 400) : text;
        }
        StringBuilder s = new StringBuilder(text);
        String signs = " \nAZ@[`z{0789=|;]~\u007f\u0000\u001f\u00e9aI";
        char sign = signs.charAt(random.nextInt(signs.length()));
        int at = random.nextInt(s.length() + 1);
        if (odds(40)) {
            s.insert(at, sign);
        } else if (odds(50) && at < s.length()) {
            s.setCharAt(at, sign);
        } else {
            s.setLength(at);
        }
        return s.length() > 400 ? s.substring(0, 400) : s.toString();
    }

    private String bookText() {
        StringBuilder from = new StringBuilder("01234567");
        StringBuilder to = new StringBuilder();
        while (from.length() > 0) {
            int i = odds(50) ? 0 : random.nextInt(from.length());
            to.append(from.charAt(i));
            from.deleteCharAt(i);
        }
        return to.toString();
    }

    private String someWord() {
        int k = random.nextInt(8);
        if (plain.words[k] != null && odds(80)) {
            return plain.words[k];
        }
        return POOL[random.nextInt(POOL.length)];
    }

    private String question() {
        if (odds(2)) {
            return "a ".repeat(200).substring(0, 400 - random.nextInt(5));
        }
        StringBuilder s = new StringBuilder();
        String row = coughedRow();
        int n = row != null ? row.length() : odds(60) ? random.nextInt(5) : random.nextInt(12);
        for (int i = 0; i < n; i++) {
            String w = row == null ? someWord() : plain.words[row.charAt(i) - 'A'];
            w = w == null ? "nothing" : w;
            s.append(odds(20) ? w.toUpperCase() : w);
            String[] gaps = {" ", ", ", "\n", "?", "-", "  ", "'", "~ "};
            s.append(odds(60) ? " " : gaps[random.nextInt(gaps.length)]);
        }
        return s.toString();
    }

    /** A thing's row, or a listed name's, with some coughs; null as often. */
    private String coughedRow() {
        StringBuilder s = new StringBuilder();
        if (!plain.rows.isEmpty() && odds(70)) {
            s.append(plain.rows.get(random.nextInt(plain.rows.size())));
        } else if (!plain.listed.isEmpty() && odds(70)) {
            s.append(plain.spelling(plain.listed.get(random.nextInt(plain.listed.size()))));
        } else {
            return null;
        }
        while (odds(40) && s.length() > 0) {
            int at = random.nextInt(s.length());
            if (odds(50)) {
                s.deleteCharAt(at);
            } else {
                s.setCharAt(at, (char) ('A' + random.nextInt(letters)));
            }
        }
        return s.toString();
    }

    /** Mostly a row that some question of the manners carries. */
    private String rowToMake() {
        java.util.Set<List<String>> all = PlainManners.allOf('A', plain.rules, new HashMap<>());
        if (all == null || all.isEmpty() || odds(20)) {
            return rowText(odds(70) ? 3 : 6);
        }
        return plain.cuesOf(new ArrayList<>(all).get(random.nextInt(all.size())));
    }

    private String rowText(int most) {
        StringBuilder s = new StringBuilder();
        int n = odds(3) ? 7 : random.nextInt(most + 1);
        for (int i = 0; i < n; i++) {
            s.append((char) ('A' + random.nextInt(letters)));
        }
        return s.toString();
    }

    private String nightText() {
        StringBuilder row = new StringBuilder();
        StringBuilder told = new StringBuilder();
        int n = 1 + random.nextInt(6);
        for (int i = 0; i < n; i++) {
            int k = random.nextInt(8);
            row.append((char) ('A' + k));
            told.append(odds(95) ? secret.charAt(k) : (char) ('0' + random.nextInt(8)));
        }
        return row + " " + told;
    }

    /** Often a question that the manners have. */
    private String mannerText() {
        java.util.Set<List<String>> all = PlainManners.allOf('A', plain.rules, new HashMap<>());
        if (all == null || all.isEmpty() || odds(30)) {
            return question();
        }
        List<String> one = new ArrayList<>(all).get(random.nextInt(all.size()));
        return String.join(odds(80) ? " " : ", ", one);
    }

    /** A text of manners, mostly without a fault. */
    private static final class GrammarText {
        private final Random random;
        private final int words;
        private final StringBuilder s = new StringBuilder();
        private final boolean wide;

        GrammarText(Random random) {
            this.random = random;
            words = 1 + random.nextInt(POOL.length);
            wide = random.nextInt(12) == 0;
        }

        String write() {
            int rules = random.nextInt(100) < 5 ? 0 : 1 + random.nextInt(5);
            String names = "ABCDEFGH";
            boolean fromBehind = random.nextInt(3) == 0;
            for (int r = 0; r < rules; r++) {
                int at = random.nextInt(100) < 4 ? random.nextInt(8) : fromBehind ? rules - 1 - r : r;
                blank();
                s.append(names.charAt(at));
                blank();
                s.append('=');
                rows(at, 0);
                s.append(';');
            }
            blank();
            return s.toString();
        }

        private void blank() {
            if (random.nextInt(3) == 0) {
                s.append(random.nextInt(4) == 0 ? "\n" : " ");
            }
        }

        private void rows(int name, int open) {
            int n = 1 + random.nextInt(3);
            for (int i = 0; i < n; i++) {
                if (i > 0) {
                    s.append('|');
                }
                row(name, open);
                blank();
            }
        }

        private void row(int name, int open) {
            int n = wide ? random.nextInt(14) : random.nextInt(4);
            for (int i = 0; i < n && s.length() < 380; i++) {
                blank();
                int what = random.nextInt(10);
                if (what < 5) {
                    s.append(' ').append(POOL[random.nextInt(words)]);
                } else if (what < 8) {
                    int later = name + 1 + random.nextInt(3);
                    s.append((char) ('A' + (random.nextInt(200) == 0 ? random.nextInt(9) : Math.min(later, 7))));
                } else if (open < 4 || random.nextInt(20) == 0) {
                    s.append('[');
                    if (open < 5) {
                        rows(name, open + 1);
                    }
                    s.append(']');
                }
            }
        }
    }
}
