import java.math.BigInteger;
import java.util.ArrayList;
import java.util.Arrays;
import java.util.Collections;
import java.util.HashMap;
import java.util.HashSet;
import java.util.List;
import java.util.Map;
import java.util.Set;
import java.util.TreeSet;

/**
 * The document once more, by plain search over all that can be: all 40320 books, all rows of
 * lengths, all coughed rows. It is slow and shares no way of reckoning with StagePair.
 */
final class Plain {
    static final int NONE = -1;
    static final int RANGE = -2;
    static final int FULL = -3;
    static final int STATE = -4;

    static final List<int[]> BOOKS = allBooks();

    String tape = "";
    final String[] words = new String[8];
    final boolean[][] mayBehind = new boolean[8][8];
    final boolean[] firsts = new boolean[8];
    int[] book = {0, 1, 2, 3, 4, 5, 6, 7};
    String asked = null;
    final List<Integer> likes = new ArrayList<>();
    final List<String> rows = new ArrayList<>();
    int[] lengths = {};
    final List<String[]> nights = new ArrayList<>();
    int most = 0;
    String spelled = "";
    final List<String> listed = new ArrayList<>();
    Map<Character, PlainManners.Node> rules = new HashMap<>();
    int faultKind = 0;
    int faultPlace = NONE;
    String madeText = "";
    final int[] lostOdds = new int[8];
    final int[][] mistakenOdds = new int[8][8];
    int[] kinds = {};
    long fewSet = 0;
    final List<int[]> days = new ArrayList<>();
    final List<String> dayBooks = new ArrayList<>();
    final List<Integer> answers = new ArrayList<>();
    final List<int[]> steps = new ArrayList<>();

    Plain() {
        for (int k = 0; k < 8; k++) {
            Arrays.fill(mayBehind[k], true);
            firsts[k] = true;
        }
    }

    private static List<int[]> allBooks() {
        List<int[]> out = new ArrayList<>();
        permute(new int[8], 0, 0, out);
        return out;
    }

    private static void permute(int[] now, int at, int used, List<int[]> out) {
        if (at == 8) {
            out.add(now.clone());
            return;
        }
        for (int d = 0; d < 8; d++) {
            if ((used & 1 << d) == 0) {
                now[at] = d;
                permute(now, at + 1, used | 1 << d, out);
            }
        }
    }

    private String takeTape() {
        String t = tape;
        tape = "";
        return t;
    }

    int feed(int a, int b, int c, int d, int e) {
        if (tape.length() + 20 > 400) {
            return FULL;
        }
        StringBuilder s = new StringBuilder(tape);
        for (int v : new int[] {a, b, c, d, e}) {
            s.append((char) (v >> 24 & 255)).append((char) (v >> 16 & 255));
            s.append((char) (v >> 8 & 255)).append((char) (v & 255));
        }
        tape = s.toString();
        return tape.length();
    }

    int end(int n) {
        if (n < 0 || n > tape.length()) {
            return NONE;
        }
        tape = tape.substring(0, n);
        return n;
    }

    int word(int k) {
        String t = takeTape();
        if (k < 0 || k > 7) {
            return RANGE;
        }
        if (!t.matches("[a-z]{1,12}")) {
            return NONE;
        }
        for (int i = 0; i < 8; i++) {
            if (i != k && t.equals(words[i])) {
                return STATE;
            }
        }
        words[k] = t;
        return t.length();
    }

    int letter(int k, int i) {
        if (k < 0 || k > 7 || words[k] == null || i < 0 || i >= words[k].length()) {
            return NONE;
        }
        return words[k].charAt(i);
    }

    int may(int k, int behind, boolean is) {
        if (k < 0 || k > 7 || behind < 0 || behind > 7) {
            return RANGE;
        }
        boolean was = mayBehind[k][behind];
        mayBehind[k][behind] = is;
        return was != is ? 1 : 0;
    }

    int first(int k, boolean is) {
        if (k < 0 || k > 7) {
            return RANGE;
        }
        boolean was = firsts[k];
        firsts[k] = is;
        return was != is ? 1 : 0;
    }

    private static boolean isBook(String t) {
        Set<Character> seen = new HashSet<>();
        for (char c : t.toCharArray()) {
            seen.add(c);
        }
        return t.matches("[0-7]{8}") && seen.size() == 8;
    }

    int book() {
        String t = takeTape();
        if (!isBook(t)) {
            return NONE;
        }
        for (int k = 0; k < 8; k++) {
            book[k] = t.charAt(k) - '0';
        }
        return 1;
    }

    int digit(int k) {
        return k < 0 || k > 7 ? RANGE : book[k];
    }

    /** The words of a question, or null with another byte. */
    private static List<String> wordsOf(String t) {
        for (char c : t.toCharArray()) {
            if (!(c == 10 || c >= 32 && c <= 126)) {
                return null;
            }
        }
        List<String> out = new ArrayList<>();
        for (String w : t.split("[^A-Za-z]+")) {
            if (!w.isEmpty()) {
                out.add(w.toLowerCase());
            }
        }
        return out;
    }

    String cuesOf(List<String> ws) {
        StringBuilder s = new StringBuilder();
        for (String w : ws) {
            int k = Arrays.asList(words).indexOf(w);
            if (k >= 0) {
                s.append((char) ('A' + k));
            }
        }
        return s.toString();
    }

    private boolean natural(String row) {
        for (int i = 0; i < row.length(); i++) {
            int k = row.charAt(i) - 'A';
            if (i == 0 ? !firsts[k] : !mayBehind[k][row.charAt(i - 1) - 'A']) {
                return false;
            }
        }
        return true;
    }

    int ask() {
        List<String> ws = wordsOf(takeTape());
        if (ws == null) {
            return NONE;
        }
        asked = cuesOf(ws);
        return asked.length();
    }

    int asked(int what) {
        if (asked == null) {
            return NONE;
        }
        if (what == 0) {
            return natural(asked) ? 1 : 0;
        }
        for (int i = 0; i < asked.length(); i++) {
            if (what == 10 + i) {
                return asked.charAt(i) - 'A';
            }
            if (what == 500 + i) {
                return book[asked.charAt(i) - 'A'];
            }
        }
        return NONE;
    }

    int thing(int like) {
        if (like < 1 || like > 9999) {
            return RANGE;
        }
        if (likes.size() == 40) {
            return FULL;
        }
        likes.add(like);
        rows.add("");
        return likes.size() - 1;
    }

    private boolean isThing(int t) {
        return t >= 0 && t < likes.size();
    }

    int row(int t) {
        String r = takeTape();
        if (!isThing(t)) {
            return RANGE;
        }
        if (!r.matches("[A-H]{0,6}")) {
            return NONE;
        }
        if (!r.isEmpty()) {
            if (!natural(r)) {
                return -11;
            }
            for (int pass = 12; pass <= 13; pass++) {
                for (int u = 0; u < rows.size(); u++) {
                    String o = rows.get(u);
                    boolean bad = pass == 12 ? r.startsWith(o) : o.startsWith(r);
                    if (u != t && !o.isEmpty() && bad) {
                        return -pass;
                    }
                }
            }
        }
        rows.set(t, r);
        return r.length();
    }

    private static Set<String> coughed(String r) {
        Set<String> out = new HashSet<>();
        for (int i = 0; i < r.length(); i++) {
            out.add(r.substring(0, i) + r.substring(i + 1));
            for (char c = 'A'; c <= 'H'; c++) {
                out.add(r.substring(0, i) + c + r.substring(i + 1));
            }
        }
        // Changed to itself is no cough; no taking away leaves a row as long.
        out.remove(r);
        return out;
    }

    private int safe(int t) {
        int safe = 2;
        for (String c : coughed(rows.get(t))) {
            for (int u = 0; u < rows.size(); u++) {
                if (u == t || rows.get(u).isEmpty()) {
                    continue;
                }
                if (rows.get(u).equals(c)) {
                    safe = 0;
                } else if (coughed(rows.get(u)).contains(c)) {
                    safe = Math.min(safe, 1);
                }
            }
        }
        return safe;
    }

    int about(int t, int what) {
        if (!isThing(t)) {
            return NONE;
        }
        String r = rows.get(t);
        if (what == 0) {
            return likes.get(t);
        }
        if (what == 1) {
            return r.length();
        }
        if (what == 2) {
            return r.isEmpty() ? NONE : safe(t);
        }
        for (int i = 0; i < r.length(); i++) {
            if (what == 10 + i) {
                return r.charAt(i) - 'A';
            }
        }
        return NONE;
    }

    long cost() {
        long sum = 0;
        for (int t = 0; t < rows.size(); t++) {
            sum += (long) likes.get(t) * rows.get(t).length();
        }
        return sum;
    }

    int means() {
        return asked == null || asked.isEmpty() ? NONE : rows.indexOf(asked);
    }

    long heard() {
        long bits = 0;
        for (int t = 0; asked != null && t < rows.size(); t++) {
            String r = rows.get(t);
            if (!r.isEmpty() && (r.equals(asked) || coughed(r).contains(asked))) {
                bits |= 1L << t;
            }
        }
        return bits;
    }

    // ---- shortest

    private final Map<String, Boolean> canBe = new HashMap<>();
    private String canBeRules = "";

    /** Whether there are rows of such lengths (how many of 1, 2, 3, 4, 5), none a begin of another. */
    private boolean canHave(int[] wanted) {
        StringBuilder now = new StringBuilder();
        for (int k = 0; k < 4; k++) {
            now.append(firsts[k]);
            for (int j = 0; j < 4; j++) {
                now.append(mayBehind[k][j]);
            }
        }
        if (!now.toString().equals(canBeRules)) {
            canBeRules = now.toString();
            canBe.clear();
        }
        int[] nodes = new int[4];
        for (int k = 0; k < 4; k++) {
            nodes[k] = firsts[k] ? 1 : 0;
        }
        return canFrom(nodes, wanted, 0);
    }

    /** Nodes of one depth are alike if their last cues are; seven of a kind are enough. */
    private boolean canFrom(int[] nodes, int[] wanted, int depth) {
        boolean none = true;
        for (int d = depth; d < 5; d++) {
            none &= wanted[d] == 0;
        }
        if (none) {
            return true;
        }
        if (depth == 5) {
            return false;
        }
        String key = Arrays.toString(nodes) + Arrays.toString(wanted) + depth;
        Boolean old = canBe.get(key);
        if (old != null) {
            return old;
        }
        boolean can = false;
        for (int a = 0; a <= nodes[0] && !can; a++) {
            for (int b = 0; b <= nodes[1] && !can; b++) {
                for (int c = 0; c <= nodes[2] && !can; c++) {
                    int d = wanted[depth] - a - b - c;
                    if (d >= 0 && d <= nodes[3]) {
                        can = canFrom(grown(nodes, new int[] {a, b, c, d}), wanted, depth + 1);
                    }
                }
            }
        }
        canBe.put(key, can);
        return can;
    }

    private int[] grown(int[] nodes, int[] ended) {
        int[] next = new int[4];
        for (int k = 0; k < 4; k++) {
            for (int j = 0; j < 4; j++) {
                next[k] += mayBehind[k][j] ? nodes[j] - ended[j] : 0;
            }
            next[k] = Math.min(next[k], 7);
        }
        return next;
    }

    private int bestCost;
    private int[] bestLengths;

    private int leastCost(int[] weights) {
        bestCost = NONE;
        bestLengths = null;
        tryLengths(weights, new int[weights.length], 0, 0);
        return bestCost;
    }

    private void tryLengths(int[] weights, int[] now, int at, int costNow) {
        if (bestCost >= 0 && costNow > bestCost) {
            return;
        }
        if (at == weights.length) {
            int[] wanted = new int[5];
            for (int l : now) {
                wanted[l - 1]++;
            }
            if ((bestCost < 0 || costNow < bestCost) && canHave(wanted)) {
                bestCost = costNow;
                bestLengths = now.clone();
            }
            return;
        }
        for (int l = 1; l <= 5; l++) {
            now[at] = l;
            tryLengths(weights, now, at + 1, costNow + l * weights[at]);
        }
    }

    private int[] likesOf(int n) {
        int[] out = new int[n];
        for (int t = 0; t < n; t++) {
            out[t] = likes.get(t);
        }
        return out;
    }

    int shortest(int n) {
        if (n < 1 || n > 7 || n > likes.size()) {
            return RANGE;
        }
        int least = leastCost(likesOf(n));
        if (least >= 0) {
            lengths = bestLengths;
        }
        return least;
    }

    int length(int t) {
        return t < 0 || t >= lengths.length ? NONE : lengths[t];
    }

    // ---- spies

    int night() {
        String t = takeTape();
        if (!t.matches("[A-H]{1,6} [0-7]{1,6}") || t.indexOf(' ') * 2 + 1 != t.length()) {
            return NONE;
        }
        if (nights.size() == 40) {
            return FULL;
        }
        nights.add(t.split(" "));
        return nights.size() - 1;
    }

    int misheard(int n) {
        if (n < 0 || n > 6) {
            return RANGE;
        }
        int old = most;
        most = n;
        return old;
    }

    private List<int[]> fitting(List<String[]> by) {
        int[][] wrong = new int[8][8];
        for (String[] n : by) {
            for (int i = 0; i < n[0].length(); i++) {
                for (int d = 0; d < 8; d++) {
                    wrong[n[0].charAt(i) - 'A'][d] += d == n[1].charAt(i) - '0' ? 0 : 1;
                }
            }
        }
        List<int[]> out = new ArrayList<>();
        for (int[] b : BOOKS) {
            int sum = 0;
            for (int k = 0; k < 8; k++) {
                sum += wrong[k][b[k]];
            }
            if (sum <= most) {
                out.add(b);
            }
        }
        return out;
    }

    int fits() {
        return fitting(nights).size();
    }

    private static int sureIn(List<int[]> fit, int k) {
        Set<Integer> all = new HashSet<>();
        for (int[] b : fit) {
            all.add(b[k]);
        }
        return all.size() == 1 ? all.iterator().next() : NONE;
    }

    int sure(int k) {
        return k < 0 || k > 7 ? RANGE : sureIn(fitting(nights), k);
    }

    int renew() {
        List<int[]> fit = fitting(nights);
        int[] banned = new int[8];
        for (int k = 0; k < 8; k++) {
            banned[k] = sureIn(fit, k);
        }
        int best = 9;
        int[] bestBook = book;
        for (int[] b : BOOKS) {
            int changed = 0;
            boolean good = true;
            for (int k = 0; k < 8; k++) {
                good &= b[k] != banned[k];
                changed += b[k] == book[k] ? 0 : 1;
            }
            if (good && changed < best) {
                best = changed;
                bestBook = b;
            }
        }
        book = bestBook.clone();
        return best;
    }

    // ---- names

    String spelling(String name) {
        StringBuilder s = new StringBuilder();
        for (char c : name.toCharArray()) {
            int n = c - 'a';
            for (int d : new int[] {n / 8, n % 8}) {
                for (int k = 0; k < 8; k++) {
                    if (book[k] == d) {
                        s.append((char) ('A' + k));
                    }
                }
            }
        }
        return s.toString();
    }

    int spell() {
        String t = takeTape();
        if (!t.matches("[a-z]{1,40}")) {
            return NONE;
        }
        spelled = spelling(t);
        return spelled.length();
    }

    int spelled(int i) {
        return i < 0 || i >= spelled.length() ? NONE : spelled.charAt(i) - 'A';
    }

    int read(int i) {
        if (asked == null || i < 0 || (long) i + 1 >= asked.length()) {
            return NONE;
        }
        int n = book[asked.charAt(i) - 'A'] * 8 + book[asked.charAt(i + 1) - 'A'];
        return n >= 26 ? NONE : 'a' + n;
    }

    int list() {
        String t = takeTape();
        if (!t.matches("[a-z]{1,12}")) {
            return NONE;
        }
        if (listed.size() == 20) {
            return FULL;
        }
        listed.add(t);
        return listed.size() - 1;
    }

    /** The fewest coughs by which `to` comes of `from`; a great number if it can't. */
    private static int coughsTo(String from, String to, Map<Integer, Integer> known) {
        if (to.length() > from.length()) {
            return 10000;
        }
        if (from.isEmpty()) {
            return 0;
        }
        int key = from.length() * 1000 + to.length();
        Integer old = known.get(key);
        if (old != null) {
            return old;
        }
        int best = 1 + coughsTo(from.substring(1), to, known);
        if (!to.isEmpty()) {
            int change = from.charAt(0) == to.charAt(0) ? 0 : 1;
            best = Math.min(best, change + coughsTo(from.substring(1), to.substring(1), known));
        }
        known.put(key, best);
        return best;
    }

    int coughs(int i) {
        if (i < 0 || i >= listed.size() || asked == null) {
            return NONE;
        }
        int n = coughsTo(spelling(listed.get(i)), asked, new HashMap<>());
        return n >= 10000 ? NONE : n;
    }

    int nearest() {
        int best = NONE;
        for (int i = listed.size() - 1; i >= 0; i--) {
            if (coughs(i) >= 0 && (best < 0 || coughs(i) <= coughs(best))) {
                best = i;
            }
        }
        return best;
    }

    // ---- manners

    int manners() {
        PlainManners p = new PlainManners(takeTape());
        p.read();
        faultKind = p.kind;
        faultPlace = p.kind == 0 ? NONE : p.place;
        if (p.kind != 0) {
            return NONE;
        }
        rules = p.rules;
        return rules.size();
    }

    int fault(int what) {
        return what == 0 ? faultKind : what == 1 ? faultPlace : NONE;
    }

    int mannerly() {
        List<String> ws = wordsOf(takeTape());
        if (ws == null || ws.size() > 60) {
            return NONE;
        }
        return PlainManners.endsOf('A', rules, ws, 0, new HashMap<>()).contains(ws.size()) ? 1 : 0;
    }

    long questions(int n) {
        if (n < 0 || n > 60) {
            return RANGE;
        }
        BigInteger all = PlainManners.countsOf('A', rules, new HashMap<>())[n];
        return all.compareTo(BigInteger.valueOf(1000000000000L)) > 0 ? FULL : all.longValue();
    }

    int make() {
        String r = takeTape();
        if (!r.matches("[A-H]{0,6}")) {
            return NONE;
        }
        List<String> best = null;
        Set<List<String>> all = PlainManners.allOf('A', rules, new HashMap<>());
        if (all != null) {
            for (List<String> q : all) {
                if (cuesOf(q).equals(r) && PlainManners.better(q, best)) {
                    best = q;
                }
            }
        } else {
            best = PlainManners.bestOf('A', rules, r, 0, r.length(), this::cuesOf, new HashMap<>());
        }
        if (best == null || best.size() > 60) {
            return FULL;
        }
        madeText = String.join(" ", best);
        return best.size();
    }

    int made(int i) {
        return i < 0 || i >= madeText.length() ? NONE : madeText.charAt(i);
    }

    // ---- odds

    int lost(int k, int h) {
        if (k < 0 || k > 7 || h < 0 || h > 30) {
            return RANGE;
        }
        int old = lostOdds[k];
        lostOdds[k] = h;
        return old;
    }

    int mistaken(int k, int as, int h) {
        if (k < 0 || k > 7 || as < 0 || as > 7 || k == as || h < 0 || h > 5) {
            return RANGE;
        }
        int old = mistakenOdds[k][as];
        mistakenOdds[k][as] = h;
        return old;
    }

    private long waysTo(String from, String to) {
        if (from.isEmpty()) {
            return to.isEmpty() ? 1 : 0;
        }
        int k = from.charAt(0) - 'A';
        long sum = lostOdds[k] * waysTo(from.substring(1), to);
        if (!to.isEmpty()) {
            int as = to.charAt(0) - 'A';
            int kept = 100 - lostOdds[k] - Arrays.stream(mistakenOdds[k]).sum();
            sum += (as == k ? kept : mistakenOdds[k][as]) * waysTo(from.substring(1), to.substring(1));
        }
        return sum;
    }

    long chance(int t) {
        return !isThing(t) || asked == null || rows.get(t).isEmpty() ? 0 : waysTo(rows.get(t), asked);
    }

    private BigInteger weight(int t) {
        BigInteger over = BigInteger.valueOf(100).pow(6 - rows.get(t).length());
        return BigInteger.valueOf(likes.get(t)).multiply(BigInteger.valueOf(chance(t))).multiply(over);
    }

    int likeliest() {
        int best = NONE;
        for (int t = likes.size() - 1; t >= 0; t--) {
            BigInteger w = weight(t);
            if (w.signum() > 0 && (best < 0 || w.compareTo(weight(best)) >= 0)) {
                best = t;
            }
        }
        return best;
    }

    long share(int what) {
        if (what != 0 && what != 1) {
            return RANGE;
        }
        int best = likeliest();
        if (best < 0) {
            return 0;
        }
        BigInteger all = BigInteger.ZERO;
        for (int t = 0; t < likes.size(); t++) {
            all = all.add(weight(t));
        }
        BigInteger by = all.gcd(weight(best));
        return (what == 0 ? weight(best) : all).divide(by).longValueExact();
    }

    // ---- in two, and given away

    int inTwo(int n) {
        if (n < 2 || n > 7 || n > likes.size()) {
            return RANGE;
        }
        Map<Integer, Integer> costs = new HashMap<>();
        int best = NONE;
        int[] bestKinds = null;
        for (int set = 1; set < 1 << n - 1; set++) {
            int[] ks = new int[n];
            for (int t = 1; t < n; t++) {
                ks[t] = set >> n - 1 - t & 1;
            }
            int sum = 0;
            boolean can = true;
            for (int kind = 0; kind < 2; kind++) {
                int c = costOfKind(ks, kind, costs);
                can &= c >= 0;
                sum += c;
            }
            for (int l : likesOf(n)) {
                sum += l;
            }
            if (can && (best < 0 || sum < best)) {
                best = sum;
                bestKinds = ks;
            }
        }
        if (best >= 0) {
            kinds = bestKinds;
        }
        return best;
    }

    private int costOfKind(int[] ks, int kind, Map<Integer, Integer> costs) {
        List<Integer> ws = new ArrayList<>();
        int key = 0;
        for (int t = 0; t < ks.length; t++) {
            if (ks[t] == kind) {
                ws.add(likes.get(t));
                key |= 1 << t;
            }
        }
        Integer old = costs.get(key);
        if (old == null) {
            old = leastCost(ws.stream().mapToInt(Integer::intValue).toArray());
            costs.put(key, old);
        }
        return old;
    }

    int kind(int t) {
        return t < 0 || t >= kinds.length ? NONE : kinds[t];
    }

    int away(int t) {
        if (!isThing(t)) {
            return RANGE;
        }
        String r = rows.get(t);
        if (r.isEmpty()) {
            return NONE;
        }
        StringBuilder ds = new StringBuilder();
        for (char c : r.toCharArray()) {
            ds.append(book[c - 'A']);
        }
        List<String[]> more = new ArrayList<>(nights);
        more.add(new String[] {r, ds.toString()});
        return fitting(more).size();
    }

    int fewest() {
        Set<Character> start = new TreeSet<>();
        for (String[] n : nights) {
            for (char c : n[0].toCharArray()) {
                start.add(c);
            }
        }
        for (int size = 0; size <= likes.size() && size <= 8; size++) {
            List<Long> sets = new ArrayList<>();
            choose(0, size, 0, start, sets);
            if (!sets.isEmpty()) {
                fewSet = Collections.min(sets);
                return size;
            }
        }
        return NONE;
    }

    private void choose(int from, int left, long set, Set<Character> have, List<Long> out) {
        if (left == 0) {
            if (have.size() >= 7) {
                out.add(set);
            }
            return;
        }
        for (int t = from; t < rows.size(); t++) {
            Set<Character> next = new TreeSet<>(have);
            for (char c : rows.get(t).toCharArray()) {
                next.add(c);
            }
            choose(t + 1, left - 1, set | 1L << t, next, out);
        }
    }

    long few() {
        return fewSet;
    }

    // ---- books by days

    private static boolean isDay(int d) {
        return d >= 0 && d <= 9999;
    }

    int bookOn(int day, int from) {
        String t = takeTape();
        if (!isDay(day) || !isDay(from)) {
            return RANGE;
        }
        if (!days.isEmpty() && days.get(days.size() - 1)[0] > day) {
            return RANGE;
        }
        if (!isBook(t)) {
            return NONE;
        }
        if (days.size() == 50) {
            return FULL;
        }
        days.add(new int[] {day, from});
        dayBooks.add(t);
        return days.size();
    }

    int digitOn(int k, int day, int known) {
        if (k < 0 || k > 7 || !isDay(day) || !isDay(known)) {
            return RANGE;
        }
        for (int from = day; from >= 0; from--) {
            for (int i = days.size() - 1; i >= 0; i--) {
                if (days.get(i)[1] == from && days.get(i)[0] <= known) {
                    return dayBooks.get(i).charAt(k) - '0';
                }
            }
        }
        return k;
    }

    // ---- shows

    int turnOf(int t) {
        if (!isThing(t)) {
            return RANGE;
        }
        if (asked == null) {
            return STATE;
        }
        if (answers.size() == 100 || steps.size() == 300) {
            return FULL;
        }
        answers.add(likeliest());
        steps.add(new int[] {answers.size() - 1, t});
        return answers.size() - 1;
    }

    int putRight(int i, int t) {
        if (i < 0 || i >= answers.size() || !isThing(t)) {
            return RANGE;
        }
        if (steps.size() == 300) {
            return FULL;
        }
        steps.add(new int[] {i, t});
        return steps.size() - 1;
    }

    private int stepOf(int i) {
        for (int s = 0; s < steps.size(); s++) {
            if (steps.get(s)[0] == i) {
                return s;
            }
        }
        return NONE;
    }

    private int thingAt(int i, int step) {
        for (int s = step; s >= 0; s--) {
            if (steps.get(s)[0] == i) {
                return steps.get(s)[1];
            }
        }
        return NONE;
    }

    int shown(int i, int step, int what) {
        if (i < 0 || i >= answers.size() || step < 0 || step >= steps.size() || stepOf(i) > step) {
            return -9;
        }
        int thing = thingAt(i, step);
        int[] all = {thing, answers.get(i), thing == answers.get(i) ? 1 : 0, stepOf(i)};
        return what < 0 || what > 3 ? -9 : all[what];
    }

    int tally(int step, int what) {
        if (step < 0 || step >= steps.size()) {
            return -9;
        }
        boolean ofThing = what >= 10 && what - 10 < likes.size();
        if (!ofThing && (what < 0 || what > 2)) {
            return -9;
        }
        int sum = 0;
        for (int i = 0; i < answers.size(); i++) {
            if (stepOf(i) <= step) {
                boolean counts = what == 0
                        || what == 1 && shown(i, step, 2) == 1
                        || what == 2 && answers.get(i) == NONE
                        || ofThing && thingAt(i, step) == what - 10;
                sum += counts ? 1 : 0;
            }
        }
        return sum;
    }

    int regret(int n) {
        if (n < 1 || n > 7 || n > likes.size()) {
            return RANGE;
        }
        int[] tallies = new int[n];
        int now = 0;
        for (int t = 0; t < n; t++) {
            tallies[t] = steps.isEmpty() ? 0 : tally(steps.size() - 1, 10 + t);
            if (rows.get(t).isEmpty()) {
                return NONE;
            }
            now += tallies[t] * rows.get(t).length();
        }
        int least = leastCost(tallies);
        return least < 0 ? NONE : now - least;
    }

    int count(int what) {
        int named = 0;
        for (String w : words) {
            named += w == null ? 0 : 1;
        }
        int[] all = {likes.size(), nights.size(), named, tape.length(), most,
            asked == null ? 0 : asked.length(), listed.size(), days.size(), answers.size(), steps.size()};
        return what < 0 || what > 9 ? NONE : all[what];
    }
}
