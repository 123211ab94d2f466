import java.util.ArrayList;
import java.util.Arrays;
import java.util.HashMap;
import java.util.List;
import java.util.Map;
import java.util.Random;

/**
 * The shortest rows, found among the rows themselves: all rows of cues 0 .. 3 that may be, as texts,
 * and sets of these of which none is a begin of another one. By chance (seeded) as to rules and likes.
 */
public final class RealRowsTest {
    private static final int ROUNDS = 700;
    private static final int TOO_LONG = 2000000;

    private final StagePair x = new StagePair();
    private final boolean[][] mayBehind = new boolean[4][4];
    private final List<List<String>> rowsOfLength = new ArrayList<>();
    private final Map<String, Boolean> known = new HashMap<>();
    private final int[] likes;
    private final int[] turns;
    private int bestCost;
    private int[] bestLengths;
    private int looked;
    private int wrong = 0;
    private int checked = 0;

    private RealRowsTest(Random random) {
        int dense = 15 + random.nextInt(65);
        boolean[] firsts = new boolean[4];
        for (int k = 0; k < 4; k++) {
            firsts[k] = random.nextInt(100) < dense + 15;
            x.first(k, firsts[k]);
            for (int j = 0; j < 4; j++) {
                mayBehind[k][j] = random.nextInt(100) < dense;
                x.may(k, j, mayBehind[k][j]);
            }
        }
        findRows(firsts);
        likes = new int[1 + random.nextInt(7)];
        turns = new int[likes.length];
        int most = random.nextBoolean() ? 4 : 50;
        for (int t = 0; t < likes.length; t++) {
            likes[t] = 1 + random.nextInt(most);
            x.thing(likes[t]);
        }
    }

    public static void main(String[] args) {
        int wrong = 0;
        int checked = 0;
        Random random = new Random(20);
        for (int round = 0; round < ROUNDS; round++) {
            RealRowsTest t = new RealRowsTest(random);
            t.checkShortest();
            t.checkInTwo();
            t.checkRegret(random);
            wrong += t.wrong;
            checked += t.checked;
        }
        System.out.println("RealRowsTest: " + checked + " answers, " + wrong + " wrong");
        if (wrong > 0) {
            System.exit(1);
        }
    }

    private void due(String call, int got, int want) {
        checked++;
        if (got != want) {
            wrong++;
            System.out.println(call + " answered " + got + ", due is " + want + ", likes " + Arrays.toString(likes)
                + ", rows of one and two cues " + rowsOfLength.get(0) + rowsOfLength.get(1));
        }
    }

    private void findRows(boolean[] firsts) {
        for (int length = 1; length <= 5; length++) {
            List<String> rows = new ArrayList<>();
            for (char k = 0; k < 4; k++) {
                if (length == 1 && firsts[k]) {
                    rows.add("" + (char) ('A' + k));
                }
                for (int i = 0; length > 1 && i < rowsOfLength.get(length - 2).size(); i++) {
                    String ahead = rowsOfLength.get(length - 2).get(i);
                    if (mayBehind[k][ahead.charAt(length - 2) - 'A']) {
                        rows.add(ahead + (char) ('A' + k));
                    }
                }
            }
            rowsOfLength.add(rows);
        }
    }

    /** Whether there are rows of these lengths (rising), none a begin of another one. */
    private boolean areThere(int[] lengths, int at, int from, List<String> had) {
        if (at == lengths.length) {
            return true;
        }
        looked++;
        if (looked > TOO_LONG) {
            throw new IllegalStateException("the search takes too long");
        }
        List<String> rows = rowsOfLength.get(lengths[at] - 1);
        for (int i = at > 0 && lengths[at] == lengths[at - 1] ? from : 0; i < rows.size(); i++) {
            String row = rows.get(i);
            if (had.stream().noneMatch(row::startsWith)) {
                had.add(row);
                if (areThere(lengths, at + 1, i + 1, had)) {
                    return true;
                }
                had.remove(had.size() - 1);
            }
        }
        return false;
    }

    /** Goes over all rows of lengths, the least first. */
    private int leastCost(int[] weights) {
        bestCost = StagePair.NONE;
        bestLengths = new int[0];
        tryLengths(weights, new int[weights.length], 0, 0);
        return bestCost;
    }

    private void tryLengths(int[] weights, int[] lengths, int at, int cost) {
        if (at < weights.length) {
            for (int length = 1; length <= 5; length++) {
                lengths[at] = length;
                tryLengths(weights, lengths, at + 1, cost + length * weights[at]);
            }
            return;
        }
        if (bestCost >= 0 && cost >= bestCost) {
            return;
        }
        int[] rising = lengths.clone();
        Arrays.sort(rising);
        looked = 0;
        if (known.computeIfAbsent(Arrays.toString(rising), k -> areThere(rising, 0, 0, new ArrayList<>()))) {
            bestCost = cost;
            bestLengths = lengths.clone();
        }
    }

    private void checkShortest() {
        for (int n = 1; n <= likes.length; n++) {
            int least = leastCost(Arrays.copyOf(likes, n));
            due("shortest(" + n + ")", x.shortest(n), least);
            for (int t = 0; t < n && least >= 0; t++) {
                due("length(" + t + ")", x.length(t), bestLengths[t]);
            }
        }
    }

    /** Kinds as digits of a number, thing 0 the highest: the least row of kinds comes first. */
    private void checkInTwo() {
        int n = likes.length;
        int best = StagePair.NONE;
        int bestKinds = 0;
        for (int kinds = 1; n > 1 && kinds < 1 << (n - 1); kinds++) {
            int one = leastCost(likesOfKind(kinds, 0));
            int other = leastCost(likesOfKind(kinds, 1));
            int sum = one + other + Arrays.stream(likes).sum();
            if (one >= 0 && other >= 0 && (best < 0 || sum < best)) {
                best = sum;
                bestKinds = kinds;
            }
        }
        due("inTwo(" + n + ")", x.inTwo(n), n > 1 ? best : StagePair.RANGE);
        for (int t = 0; t < n && best >= 0; t++) {
            due("kind(" + t + ")", x.kind(t), bestKinds >> (n - 1 - t) & 1);
        }
    }

    private int[] likesOfKind(int kinds, int kind) {
        List<Integer> out = new ArrayList<>();
        for (int t = 0; t < likes.length; t++) {
            if ((kinds >> (likes.length - 1 - t) & 1) == kind) {
                out.add(likes[t]);
            }
        }
        return out.stream().mapToInt(Integer::intValue).toArray();
    }

    /** Things have rows of six cues 4 .. 7, which may always be; they are held up by chance. */
    private void checkRegret(Random random) {
        int n = likes.length;
        for (int t = 0; t < n; t++) {
            x.feed(0x45454545, (0x45 + t / 4) << 24 | (0x45 + t % 4) << 16, 0, 0, 0);
            x.end(6);
            due("row(" + t + ")", x.row(t), 6);
        }
        due("ask()", x.ask(), 0);
        int now = 0;
        for (int i = 0; i < 12; i++) {
            int t = random.nextInt(n);
            due("turnOf(" + t + ")", x.turnOf(t), i);
            turns[t]++;
            now += 6;
        }
        int least = leastCost(turns);
        due("regret(" + n + ")", x.regret(n), least < 0 ? StagePair.NONE : now - least);
    }
}
