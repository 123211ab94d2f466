/** Promises 37 to 54: odds, two kinds, what is given away, books by days, shows, counts. */
public final class OddsAndShowsTest {
    private static final int NONE = StagePair.NONE;
    private static final int RANGE = StagePair.RANGE;
    private static final int FULL = StagePair.FULL;
    private static final int STATE = StagePair.STATE;
    private static final int NO_SUCH = -9;
    private static final int LOW = Integer.MIN_VALUE;
    private static final int HIGH = Integer.MAX_VALUE;

    private final Bench b = new Bench();

    public static void main(String[] args) {
        OddsAndShowsTest t = new OddsAndShowsTest();
        t.setOdds();
        t.chance();
        t.likeliest();
        t.share();
        t.inTwo();
        t.away();
        t.fewest();
        t.days();
        t.turns();
        t.steps();
        t.tally();
        t.fullShows();
        t.regret();
        t.counts();
        t.b.finish("OddsAndShowsTest");
    }

    private void setOdds() {
        StagePair x = b.begin(37);
        b.due(x.lost(0, 30), 0);
        b.due(x.lost(0, 0), 30);
        b.due(x.lost(7, 12), 0);
        b.due(x.lost(7, 12), 12);
        for (int bad : new int[] {-1, LOW, HIGH}) {
            b.due(x.lost(bad, 1), RANGE);
            b.due(x.lost(7, bad), RANGE);
        }
        b.due(x.lost(8, 1), RANGE);
        b.due(x.lost(7, 31), RANGE);
        b.due(x.lost(7, 0), 12);

        x = b.begin(38);
        b.due(x.mistaken(0, 7, 5), 0);
        b.due(x.mistaken(7, 0, 4), 0);
        b.due(x.mistaken(0, 7, 0), 5);
        b.due(x.mistaken(7, 0, 0), 4);
        for (int bad : new int[] {-1, LOW, HIGH}) {
            b.due(x.mistaken(bad, 1, 1), RANGE);
            b.due(x.mistaken(1, bad, 1), RANGE);
            b.due(x.mistaken(0, 1, bad), RANGE);
        }
        b.due(x.mistaken(8, 1, 1), RANGE);
        b.due(x.mistaken(1, 8, 1), RANGE);
        b.due(x.mistaken(0, 1, 6), RANGE);
        b.due(x.mistaken(3, 3, 1), RANGE);
        b.due(x.mistaken(3, 3, 0), RANGE);
        b.due(x.mistaken(0, 1, 0), 0);
    }

    private void chance() {
        StagePair x = b.begin(39);
        b.nameCues("a", "b", "c");
        b.haveThings(new String[] {"A", "BAB", "", "CCCCCC"}, 1, 1, 1, 1);
        b.due(x.chance(0), 0);
        b.due(b.ask("a"), 1);
        b.due(x.chance(0), 100);
        b.due(x.chance(1), 0);
        for (int t : new int[] {-1, 2, 4, LOW, HIGH}) {
            b.due(x.chance(t), 0);
        }
        x.lost(1, 30);
        x.mistaken(1, 0, 5);
        b.due(b.ask("a"), 1);
        // B A B: all but one B are lost: 30 * 100 * 30; A is never lost.
        b.due(x.chance(1), 30 * 100 * 30);
        x.lost(0, 10);
        // Or A is lost and one B is heard as A, in two ways.
        b.due(x.chance(1), 30 * 90 * 30 + 2 * 5 * 10 * 30);
        b.due(b.ask(""), 0);
        b.due(x.chance(1), 30 * 10 * 30);
        b.due(x.chance(0), 10);
        b.due(b.ask("b b"), 2);
        b.due(x.chance(1), 65 * 10 * 65);
        b.due(b.ask("b a b"), 3);
        b.due(x.chance(1), 65 * 90 * 65);
        b.due(b.ask("a a"), 2);
        b.due(x.chance(1), 5 * 90 * 30 * 2 + 5 * 10 * 5);
        b.due(b.ask("a a a a"), 4);
        b.due(x.chance(1), 0);
        // All of six: 35 each at the least.
        x.lost(2, 30);
        for (int as = 0; as < 8; as++) {
            x.mistaken(2, as, 5);
        }
        b.due(b.ask("c c c c c c"), 6);
        b.due(x.chance(3), 35L * 35 * 35 * 35 * 35 * 35);
        b.due(b.ask("c a c c c c"), 6);
        b.due(x.chance(3), 35L * 5 * 35 * 35 * 35 * 35);
        b.due(b.ask("c c c c c"), 5);
        b.due(x.chance(3), 6 * 30L * 35 * 35 * 35 * 35 * 35);
        b.due(b.ask("\t"), NONE);
        b.due(x.chance(3), 6 * 30L * 35 * 35 * 35 * 35 * 35);
    }

    private void likeliest() {
        StagePair x = b.begin(40);
        b.nameCues("a", "b", "c");
        b.haveThings(new String[] {"A", "BA", "CA", ""}, 1, 10, 10, 9999);
        b.due(x.likeliest(), NONE);
        b.due(b.ask("a"), 1);
        b.due(x.likeliest(), 0);
        x.lost(2, 11);
        b.due(x.likeliest(), 2);
        // 10 * 10 over a hundred is 1: alike, the least number.
        x.lost(2, 10);
        b.due(x.likeliest(), 0);
        x.lost(2, 20);
        x.lost(1, 20);
        b.due(x.likeliest(), 1);
        b.due(b.ask("b b"), 2);
        b.due(x.likeliest(), NONE);
        b.due(b.ask(""), 0);
        b.due(x.likeliest(), NONE);
        x.lost(0, 1);
        b.due(x.likeliest(), 1);
    }

    private void share() {
        StagePair x = b.begin(41);
        b.nameCues("a", "b", "c", "d", "e", "f", "g", "h");
        b.haveThings(new String[] {"A", "BA", "CA", ""}, 10, 30, 5, 7);
        b.due(x.share(0), 0);
        b.due(x.share(1), 0);
        for (int what : new int[] {-1, 2, LOW, HIGH}) {
            b.due(x.share(what), RANGE);
        }
        b.due(b.ask("a"), 1);
        b.due(x.share(0), 1);
        b.due(x.share(1), 1);
        // 10, and 30 * 10 / 100: 10 of 13.
        x.lost(1, 10);
        b.due(x.share(0), 10);
        b.due(x.share(1), 13);
        // 10 and 3 and 5 * 20 / 100: 10 of 14.
        x.lost(2, 20);
        b.due(x.share(0), 5);
        b.due(x.share(1), 7);
        b.due(b.ask("h"), 1);
        b.due(x.share(0), 0);
        b.due(x.share(1), 0);
        // Nothing can be cut: 10^12 ways of 10^12, and one.
        x = b.begin(41);
        b.nameCues("a", "b");
        b.haveThings(new String[] {"AAAAAA", "BBBBBB"}, 1, 1);
        x.mistaken(1, 0, 1);
        b.due(b.ask("a a a a a a"), 6);
        b.due(x.share(0), 1000000000000L);
        b.due(x.share(1), 1000000000001L);
        // Six cues and one, with great likes.
        x = b.begin(41);
        b.nameCues("a", "b");
        b.haveThings(new String[] {"A", "BBBBBB"}, 9999, 9998);
        x.lost(0, 1);
        x.lost(1, 30);
        b.due(b.ask(""), 0);
        b.due(x.likeliest(), 0);
        // 9999 * 10^10 against 9998 * 30^6 (in 10^12): cut by 2 and by powers of ten.
        long one = 9999L * 10000000000L;
        long other = 9998L * 729000000L;
        long by = java.math.BigInteger.valueOf(one).gcd(java.math.BigInteger.valueOf(one + other)).longValue();
        b.due(x.share(0), one / by);
        b.due(x.share(1), (one + other) / by);
    }

    private void inTwo() {
        StagePair x = b.begin(42);
        for (int like : new int[] {10, 30, 5, 1, 1, 1, 1, 1}) {
            x.thing(like);
        }
        for (int n : new int[] {-1, 0, 1, 8, LOW, HIGH}) {
            b.due(x.inTwo(n), RANGE);
        }
        b.due(x.kind(0), NONE);
        // All rows of one cue, whichever kinds: 0 .. 0 1 is the least.
        b.due(x.inTwo(4), 2 * 46);
        b.due(x.kind(0), 0);
        b.due(x.kind(1), 0);
        b.due(x.kind(2), 0);
        b.due(x.kind(3), 1);
        // Seven are parted four and three.
        b.due(x.inTwo(7), 2 * 49);
        int[] dues = {0, 0, 0, 0, 1, 1, 1};
        for (int t = 0; t < 7; t++) {
            b.due(x.kind(t), dues[t]);
        }
        for (int t : new int[] {-1, 7, LOW, HIGH}) {
            b.due(x.kind(t), NONE);
        }
        // With one first cue, and a row of two behind it, a kind of two costs twos.
        for (int k = 1; k < 4; k++) {
            x.first(k, false);
        }
        b.due(x.inTwo(2), 2 * 40);
        b.due(x.kind(1), 1);
        b.due(x.kind(2), NONE);
        // 30 alone, 10 and 5 by two cues each.
        b.due(x.inTwo(3), 45 + 30 + 30);
        b.due(x.kind(0), 0);
        b.due(x.kind(1), 1);
        b.due(x.kind(2), 0);

        x = b.begin(43);
        x.thing(1);
        b.due(x.inTwo(2), RANGE);
        x.thing(1);
        x.thing(1);
        b.due(x.inTwo(2), 4);
        b.due(x.kind(1), 1);
        for (int k = 0; k < 4; k++) {
            x.first(k, false);
        }
        b.due(x.inTwo(3), NONE);
        b.due(x.inTwo(4), RANGE);
        b.due(x.kind(0), 0);
        b.due(x.kind(1), 1);
        b.due(x.kind(2), NONE);
        // One row for each kind, no more: two things can be, three can't.
        x.first(0, true);
        for (int k = 0; k < 4; k++) {
            x.may(k, 0, false);
        }
        b.due(x.inTwo(2), 4);
        b.due(x.inTwo(3), NONE);
        b.due(x.shortest(2), NONE);
    }

    private void away() {
        StagePair x = b.begin(44);
        b.haveThings(new String[] {"A", "BCD", "", "CBBB"}, 1, 1, 1, 1);
        b.due(x.away(0), 5040);
        b.due(x.away(1), 120);
        b.due(x.away(2), NONE);
        for (int t : new int[] {-1, 4, LOW, HIGH}) {
            b.due(x.away(t), RANGE);
        }
        // It is no night for that.
        b.due(x.fits(), 40320);
        b.due(x.count(1), 0);
        b.due(x.sure(0), NONE);
        b.due(b.tell("B 1"), 0);
        b.due(x.away(0), 720);
        b.due(x.away(1), 120);
        b.due(x.away(3), 720);
        b.due(b.tell("A 7"), 1);
        b.due(x.away(0), 0);
        // A was told as 7 and would be as 0: one of these may be wrong, or B in place of it not.
        x.misheard(1);
        b.due(x.away(0), 720 + 720);
        b.due(x.fits(), 720 + (5040 - 720) + (5040 - 720));
        // With the digits of the book now.
        b.put("71234560");
        b.due(x.book(), 1);
        x.misheard(0);
        b.due(x.away(0), 720);
        // With forty nights one more is still reckoned.
        for (int n = 2; n < 40; n++) {
            b.due(b.tell("A 7"), n);
        }
        b.due(x.away(0), 720);
        b.due(x.away(1), 24);
    }

    private void fewest() {
        StagePair x = b.begin(45);
        b.due(x.fewest(), NONE);
        b.due(x.few(), 0);
        b.haveThings(new String[] {"AB", "CD", "EF", "G", "ACDEFG", "HABCDE", "BA"}, 1, 1, 1, 1, 1, 1, 1);
        // 4 and 0; 4 and 6; 4 and 5; 5 with 2 or 3 ...: 0 and 4 is 17.
        b.due(x.fewest(), 2);
        b.due(x.few(), 1 | 1 << 4);
        // F and G are known: HABCDE alone with them.
        b.due(b.tell("F 0"), 0);
        b.due(x.fewest(), 1);
        b.due(x.few(), 1 << 5);
        // The night's digits count as true, whatever was misheard.
        x.misheard(6);
        b.due(b.tell("G 0"), 1);
        b.due(x.fewest(), 1);
        b.due(x.few(), 1 << 5);
        b.due(b.tell("ABCDE 00000"), 2);
        b.due(x.fewest(), 0);
        b.due(x.few(), 0);

        x = b.begin(46);
        b.haveThings(new String[] {"", "A", "BCDEFG", "H"}, 1, 1, 1, 1);
        b.due(x.fewest(), 2);
        b.due(x.few(), 1 << 1 | 1 << 2);
        b.put("");
        b.due(x.row(2), 0);
        b.due(x.fewest(), NONE);
        b.due(x.few(), 1 << 1 | 1 << 2);
        // High numbers.
        x = b.begin(46);
        for (int t = 0; t < 40; t++) {
            x.thing(1);
        }
        for (int t = 33; t < 40; t++) {
            b.put("" + (char) ('A' + t - 33));
            b.due(x.row(t), 1);
        }
        b.due(x.fewest(), 7);
        b.due(x.few(), 127L << 33);
        b.put("H");
        b.due(x.row(2), 1);
        b.due(x.fewest(), 7);
        b.due(x.few(), 63L << 33 | 1 << 2);
    }

    private int tellOn(int day, int from, String digits) {
        b.put(digits);
        return b.x.bookOn(day, from);
    }

    private void days() {
        StagePair x = b.begin(47);
        b.due(tellOn(5, 10, "10234567"), 1);
        b.due(x.count(3), 0);
        for (int bad : new int[] {-1, 10000, LOW, HIGH}) {
            b.due(tellOn(bad, 1, "10234567"), RANGE);
            b.due(x.count(3), 0);
            b.due(tellOn(9999, bad, "10234567"), RANGE);
        }
        b.due(tellOn(4, 10, "10234567"), RANGE);
        b.due(tellOn(4, 10, "x"), RANGE);
        b.due(tellOn(5, 10, "1023456"), NONE);
        b.due(tellOn(9999, 10, "10234566"), NONE);
        b.due(x.count(3), 0);
        b.due(tellOn(5, 0, "76543210"), 2);
        b.due(x.count(7), 2);
        for (int n = 3; n <= 50; n++) {
            b.due(tellOn(5, 9999, "01234567"), n);
        }
        b.due(tellOn(5, 1, "01234567"), FULL);
        b.due(tellOn(5, 1, "0"), NONE);
        b.due(tellOn(4, 1, "0"), RANGE);
        b.due(x.count(7), 50);
        b.due(x.digit(0), 0);

        x = b.begin(48);
        b.due(x.digitOn(3, 0, 9999), 3);
        b.due(tellOn(2, 10, "10234567"), 1);
        b.due(tellOn(2, 10, "20134567"), 2);
        b.due(tellOn(4, 5, "76543210"), 3);
        b.due(tellOn(6, 10, "34567012"), 4);
        int[][] dues = {{0, 10, 1, 0}, {0, 10, 2, 2}, {0, 9, 2, 0}, {0, 9999, 3, 2}, {0, 9, 4, 7}, {0, 5, 4, 7},
            {0, 4, 9999, 0}, {0, 10, 5, 2}, {0, 10, 6, 3}, {7, 10, 6, 2}, {7, 9, 6, 0}, {2, 11, 2, 1}};
        for (int[] d : dues) {
            b.due(x.digitOn(d[0], d[1], d[2]), d[3]);
        }
        for (int bad : new int[] {-1, 10000, LOW, HIGH}) {
            b.due(x.digitOn(bad, 1, 1), RANGE);
            b.due(x.digitOn(0, bad, 1), RANGE);
            b.due(x.digitOn(0, 1, bad), RANGE);
        }
        b.due(x.digitOn(8, 1, 1), RANGE);
    }

    /** Things 0 (A), 1 (B), 2 (none); nothing asked. */
    private StagePair stage(int promise) {
        StagePair x = b.begin(promise);
        b.nameCues("a", "b");
        b.haveThings(new String[] {"A", "B", ""}, 3, 2, 1);
        return x;
    }

    private void turns() {
        StagePair x = stage(49);
        b.due(x.turnOf(3), RANGE);
        b.due(x.turnOf(-1), RANGE);
        b.due(x.turnOf(LOW), RANGE);
        b.due(x.turnOf(HIGH), RANGE);
        b.due(x.turnOf(0), STATE);
        b.due(b.ask("\t"), NONE);
        b.due(x.turnOf(0), STATE);
        b.due(b.ask("a"), 1);
        b.due(x.turnOf(0), 0);
        b.due(b.ask("b"), 1);
        b.due(x.turnOf(0), 1);
        b.due(b.ask("\t"), NONE);
        b.due(x.turnOf(2), 2);
        b.due(b.ask(""), 0);
        b.due(x.turnOf(2), 3);
        b.due(x.count(8), 4);
        b.due(x.count(9), 4);
        b.due(x.shown(0, 0, 1), 0);
        b.due(x.shown(1, 1, 1), 1);
        b.due(x.shown(2, 2, 1), 1);
        b.due(x.shown(3, 3, 1), NONE);
        // The answer is the likeliest as things were then.
        x.lost(1, 10);
        b.due(x.likeliest(), 1);
        b.due(x.shown(3, 3, 1), NONE);
        b.due(x.turnOf(1), 4);
        b.due(x.shown(4, 4, 1), 1);
    }

    private void steps() {
        StagePair x = stage(50);
        b.due(x.putRight(0, 0), RANGE);
        b.due(b.ask("a"), 1);
        b.due(x.turnOf(1), 0);
        b.due(x.putRight(0, 0), 1);
        b.due(x.turnOf(2), 1);
        b.due(x.putRight(0, 2), 3);
        b.due(x.putRight(0, 2), 4);
        for (int bad : new int[] {-1, LOW, HIGH}) {
            b.due(x.putRight(bad, 0), RANGE);
            b.due(x.putRight(0, bad), RANGE);
        }
        b.due(x.putRight(2, 0), RANGE);
        b.due(x.putRight(0, 3), RANGE);
        b.due(x.count(8), 2);
        b.due(x.count(9), 5);

        b.due(x.shown(0, 0, 0), 1);
        int[][] dues = {{0, 0, 1, 0}, {0, 0, 2, 0}, {0, 0, 3, 0}, {0, 1, 0, 0}, {0, 1, 2, 1}, {0, 2, 0, 0},
            {0, 3, 0, 2}, {0, 4, 2, 0}, {0, 4, 1, 0}, {1, 2, 0, 2}, {1, 4, 3, 2}, {1, 4, 2, 0},
            {1, 1, 0, NO_SUCH}, {1, 0, 3, NO_SUCH}, {0, 5, 0, NO_SUCH}, {0, -1, 0, NO_SUCH}, {2, 4, 0, NO_SUCH},
            {-1, 4, 0, NO_SUCH}, {0, 4, 4, NO_SUCH}, {0, 4, -1, NO_SUCH}, {LOW, HIGH, LOW, NO_SUCH},
            {0, HIGH, 0, NO_SUCH}, {HIGH, 0, 0, NO_SUCH}, {0, 0, HIGH, NO_SUCH}};
        for (int[] d : dues) {
            b.due(x.shown(d[0], d[1], d[2]), d[3]);
        }
        x = stage(51);
        b.due(x.shown(0, 0, 0), NO_SUCH);
        // Without an answer no thing is right.
        b.due(b.ask(""), 0);
        b.due(x.turnOf(0), 0);
        b.due(x.shown(0, 0, 1), NONE);
        b.due(x.shown(0, 0, 2), 0);
    }

    private void tally() {
        StagePair x = stage(52);
        b.due(x.tally(0, 0), NO_SUCH);
        b.due(b.ask("a"), 1);
        b.due(x.turnOf(0), 0);
        b.due(x.turnOf(1), 1);
        b.due(b.ask("b b"), 2);
        b.due(x.turnOf(1), 2);
        b.due(x.putRight(1, 0), 3);
        b.due(x.putRight(0, 2), 4);
        int[][] dues = {{0, 0, 1}, {1, 0, 2}, {2, 0, 3}, {4, 0, 3}, {0, 1, 1}, {1, 1, 1}, {3, 1, 2}, {4, 1, 1},
            {1, 2, 0}, {2, 2, 1}, {4, 2, 1}, {0, 10, 1}, {0, 11, 0}, {1, 11, 1}, {2, 11, 2}, {3, 11, 1}, {3, 10, 2},
            {4, 10, 1}, {4, 12, 1}, {3, 12, 0}, {4, 13, NO_SUCH}, {4, 9, NO_SUCH}, {4, 3, NO_SUCH}, {4, -1, NO_SUCH},
            {5, 0, NO_SUCH}, {-1, 0, NO_SUCH}, {LOW, 0, NO_SUCH}, {HIGH, 0, NO_SUCH}, {0, LOW, NO_SUCH},
            {0, HIGH, NO_SUCH}, {0, LOW + 9, NO_SUCH}};
        for (int[] d : dues) {
            b.due(x.tally(d[0], d[1]), d[2]);
        }
        // A thing that came later was held up in none.
        b.due(x.thing(1), 3);
        b.due(x.tally(4, 13), 0);
    }

    private void fullShows() {
        StagePair x = stage(49);
        b.due(b.ask("a"), 1);
        for (int i = 0; i < 100; i++) {
            b.due(x.turnOf(0), i);
        }
        b.due(x.turnOf(0), FULL);
        b.due(x.turnOf(3), RANGE);
        for (int step = 100; step < 300; step++) {
            b.due(x.putRight(99, step % 3), step);
        }
        b.due(x.putRight(99, 0), FULL);
        b.due(x.putRight(100, 0), RANGE);
        b.due(x.count(8), 100);
        b.due(x.count(9), 300);
        b.due(x.shown(99, 299, 0), 299 % 3);
        b.due(x.tally(299, 10), 99);
        // The 301st step, though there are few turns.
        x = stage(49);
        b.due(b.ask("a"), 1);
        b.due(x.turnOf(0), 0);
        for (int step = 1; step < 300; step++) {
            b.due(x.putRight(0, 1), step);
        }
        b.due(x.turnOf(0), FULL);
        b.due(x.putRight(0, 1), FULL);
        b.due(x.count(8), 1);
    }

    private void regret() {
        StagePair x = b.begin(53);
        b.nameCues("a", "b");
        b.due(x.regret(1), RANGE);
        b.haveThings(new String[] {"AAA", "BB", "", "H"}, 9, 9, 9, 9);
        for (int n : new int[] {-1, 0, 5, 8, LOW, HIGH}) {
            b.due(x.regret(n), RANGE);
        }
        b.due(x.regret(2), 0);
        b.due(x.regret(3), NONE);
        b.due(b.ask("a"), 1);
        b.due(x.turnOf(0), 0);
        b.due(x.turnOf(0), 1);
        b.due(x.turnOf(1), 2);
        // 3 + 3 + 2 against 1 + 1 + 1.
        b.due(x.regret(2), 5);
        b.due(x.regret(1), 4);
        b.due(x.putRight(0, 1), 3);
        b.due(x.regret(2), 3 + 2 + 2 - 3);
        b.put("C");
        b.due(x.row(2), 1);
        // Thing 2 was never held up, but has a row: with one first cue it takes room.
        b.due(x.shortest(2), 18);
        for (int k = 1; k < 4; k++) {
            x.first(k, false);
        }
        b.due(x.regret(1), 3 - 1);
        b.due(x.regret(3), 7 - 2 * 3);
        b.due(x.length(1), 1);
        b.due(x.length(2), NONE);
        for (int k = 0; k < 4; k++) {
            x.may(k, 0, false);
        }
        b.due(x.regret(1), 2);
        b.due(x.regret(2), NONE);
        // Rows as they are may be shorter than what cues 0 .. 3 allow: below 0.
        x = b.begin(53);
        b.nameCues("a");
        b.haveThings(new String[] {"G", "H"}, 1, 1);
        b.due(b.ask(""), 0);
        b.due(x.turnOf(0), 0);
        b.due(x.turnOf(1), 1);
        for (int k = 1; k < 4; k++) {
            x.first(k, false);
        }
        b.due(x.regret(2), 2 - 4);
    }

    private void counts() {
        StagePair x = b.begin(54);
        b.nameCues("a", "b", "c");
        b.haveThings(new String[] {"A", "B", "C", "D"}, 1, 1, 1, 1);
        b.due(b.tell("A 0"), 0);
        b.due(b.tell("A 0"), 1);
        x.misheard(5);
        b.due(b.ask("a b c a b c"), 6);
        for (int i = 0; i < 7; i++) {
            b.put("abc");
            x.list();
        }
        for (int i = 0; i < 8; i++) {
            tellOn(1, 1, "01234567");
        }
        for (int i = 0; i < 9; i++) {
            x.turnOf(1);
        }
        x.putRight(0, 1);
        b.put("twelve bytes");
        int[] dues = {4, 2, 3, 12, 5, 6, 7, 8, 9, 10};
        for (int what = 0; what <= 9; what++) {
            b.due(x.count(what), dues[what]);
        }
        for (int what : new int[] {-1, 10, LOW, HIGH}) {
            b.due(x.count(what), NONE);
        }
    }
}
