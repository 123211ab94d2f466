/** Promises 1 to 19: the tape, cues, questions, things, shortest rows. */
public final class CuesAndThingsTest {
    private static final int NONE = StagePair.NONE;
    private static final int RANGE = StagePair.RANGE;
    private static final int FULL = StagePair.FULL;
    private static final int STATE = StagePair.STATE;
    private static final int LOW = Integer.MIN_VALUE;
    private static final int HIGH = Integer.MAX_VALUE;

    private final Bench b = new Bench();

    public static void main(String[] args) {
        CuesAndThingsTest t = new CuesAndThingsTest();
        t.newObject();
        t.tape();
        t.words();
        t.standingBeside();
        t.books();
        t.questions();
        t.things();
        t.rows();
        t.safety();
        t.costAndMeaning();
        t.shortest();
        t.shortestAtEdges();
        t.shortestAlike();
        t.b.finish("CuesAndThingsTest");
    }

    private void newObject() {
        StagePair x = b.begin(1);
        b.due(StagePair.NONE, -1);
        b.due(StagePair.RANGE, -2);
        b.due(StagePair.FULL, -3);
        b.due(StagePair.STATE, -4);
        for (int what = 0; what <= 9; what++) {
            b.due(x.count(what), 0);
        }
        for (int k = 0; k < 8; k++) {
            b.due(x.digit(k), k);
            b.due(x.letter(k, 0), NONE);
        }
        b.due(x.fits(), 40320);
        b.due(x.cost(), 0);
        b.due(x.means(), NONE);
        b.due(x.heard(), 0);
        b.due(x.asked(0), NONE);
        b.due(x.spelled(0), NONE);
        b.due(x.read(0), NONE);
        b.due(x.nearest(), NONE);
        b.due(x.fault(0), 0);
        b.due(x.made(0), NONE);
        b.due(x.likeliest(), NONE);
        b.due(x.length(0), NONE);
        b.due(x.kind(0), NONE);
        b.due(x.few(), 0);
        b.due(x.fewest(), NONE);
        b.due(x.questions(0), 0);
        b.due(x.tally(0, 0), -9);
    }

    private void tape() {
        StagePair x = b.begin(2);
        // "ab" and bytes 0, 255: the highest byte of an int comes first.
        b.due(x.feed(0x61620000, 0xffffffff, 0x80000000, LOW, HIGH), 20);
        b.due(x.end(2), 2);
        b.due(x.word(0), 2);
        b.due(x.letter(0, 0), 'a');
        b.due(x.letter(0, 1), 'b');
        for (int n = 1; n <= 20; n++) {
            b.due(x.feed(0, 0, 0, 0, 0), 20 * n);
        }
        b.due(x.feed(0, 0, 0, 0, 0), FULL);
        b.due(x.count(3), 400);
        b.due(x.end(381), 381);
        b.due(x.feed(0, 0, 0, 0, 0), FULL);
        b.due(x.count(3), 381);
        b.due(x.end(380), 380);
        b.due(x.feed(0, 0, 0, 0, 0), 400);
        // All twenty bytes in their order.
        x.end(0);
        x.feed(0x61626364, 0x65666768, 0x696a6b6c, 0x6d6e6f70, 0x71727374);
        b.due(x.spell(), 40);
        x.feed(0x61626364, 0x65666768, 0x696a6b6c, 0x6d6e6f70, 0x71727374);
        x.end(12);
        b.due(x.word(1), 12);
        for (int i = 0; i < 12; i++) {
            b.due(x.letter(1, i), 'a' + i);
        }

        x = b.begin(3);
        b.due(x.end(0), 0);
        b.due(x.end(1), NONE);
        b.due(x.end(-1), NONE);
        b.due(x.end(LOW), NONE);
        b.due(x.end(HIGH), NONE);
        x.feed(0, 0, 0, 0, 0);
        b.due(x.end(21), NONE);
        b.due(x.end(20), 20);
        b.due(x.end(7), 7);
        b.due(x.end(8), NONE);
        b.due(x.count(3), 7);
        b.due(x.end(-1), NONE);
        b.due(x.count(3), 7);
        b.due(x.feed(0, 0, 0, 0, 0), 27);
    }

    private void words() {
        StagePair x = b.begin(4);
        b.put("please");
        b.due(x.word(7), 6);
        b.due(x.count(3), 0);
        b.due(x.word(6), NONE);
        b.put("abcdefghijkl");
        b.due(x.word(0), 12);
        b.put("abcdefghijklm");
        b.due(x.word(1), NONE);
        b.due(x.count(3), 0);
        for (String none : new String[] {"No", "a b", "a1", " a", "a`", "a{", "Z"}) {
            b.put(none);
            b.due(x.word(1), NONE);
        }
        b.put("please");
        b.due(x.word(1), STATE);
        b.due(x.count(3), 0);
        b.put("please");
        b.due(x.word(7), 6);
        for (int k : new int[] {-1, 8, LOW, HIGH}) {
            b.put("please");
            b.due(x.word(k), RANGE);
            b.due(x.count(3), 0);
        }
        // A cue gets another word: the old one is free then.
        b.put("pleas");
        b.due(x.word(7), 5);
        b.put("please");
        b.due(x.word(1), 6);
        b.put("pleased");
        b.due(x.word(2), 7);
        b.due(x.count(2), 4);

        x = b.begin(5);
        b.nameCues("sir", "q");
        b.due(x.letter(0, 0), 's');
        b.due(x.letter(0, 2), 'r');
        b.due(x.letter(0, 3), NONE);
        b.due(x.letter(0, -1), NONE);
        b.due(x.letter(1, 0), 'q');
        b.due(x.letter(1, 1), NONE);
        b.due(x.letter(2, 0), NONE);
        b.due(x.letter(-1, 0), NONE);
        b.due(x.letter(8, 0), NONE);
        b.due(x.letter(LOW, HIGH), NONE);
        b.put("no");
        b.due(x.word(0), 2);
        b.due(x.letter(0, 2), NONE);
    }

    private void standingBeside() {
        StagePair x = b.begin(6);
        b.nameCues("a", "b", "c");
        b.due(b.ask("a b"), 2);
        b.due(x.may(1, 0, true), 0);
        b.due(x.may(1, 0, false), 1);
        b.due(x.may(1, 0, false), 0);
        b.due(x.asked(0), 0);
        b.due(b.ask("b a"), 2);
        b.due(x.asked(0), 1);
        b.due(x.may(1, 0, true), 1);
        b.due(b.ask("c c"), 2);
        b.due(x.may(2, 2, false), 1);
        b.due(x.asked(0), 0);
        for (int k : new int[] {-1, 8, LOW, HIGH}) {
            b.due(x.may(k, 0, false), RANGE);
            b.due(x.may(0, k, false), RANGE);
        }
        b.due(x.may(7, 7, false), 1);

        x = b.begin(7);
        b.nameCues("a", "b");
        b.due(b.ask("b a"), 2);
        b.due(x.first(1, true), 0);
        b.due(x.first(1, false), 1);
        b.due(x.first(1, false), 0);
        b.due(x.asked(0), 0);
        b.due(b.ask("a b"), 2);
        b.due(x.asked(0), 1);
        b.due(x.first(1, true), 1);
        for (int k : new int[] {-1, 8, LOW, HIGH}) {
            b.due(x.first(k, false), RANGE);
        }
    }

    private void books() {
        StagePair x = b.begin(8);
        b.put("76543210");
        b.due(x.book(), 1);
        b.due(x.count(3), 0);
        b.due(x.digit(0), 7);
        for (String none : new String[] {"", "7654321", "765432100", "76543211", "76543218", "7654321/", "0123456a",
            // bytes that are 32 beyond a digit, or 128 or more
            "P1234567", "0123456W", "0123456" + (char) 183, "0123456" + (char) 255}) {
            b.put(none);
            b.due(x.book(), NONE);
            b.due(x.count(3), 0);
        }
        b.due(x.digit(0), 7);
        b.due(x.digit(7), 0);

        x = b.begin(9);
        b.put("10325476");
        b.due(x.book(), 1);
        int[] digits = {1, 0, 3, 2, 5, 4, 7, 6};
        for (int k = 0; k < 8; k++) {
            b.due(x.digit(k), digits[k]);
        }
        for (int k : new int[] {-1, 8, LOW, HIGH}) {
            b.due(x.digit(k), RANGE);
        }
    }

    private void questions() {
        StagePair x = b.begin(10);
        b.nameCues("please", "now", "a");
        b.due(b.ask("Please, PLEASE now-then: pleased, nowhere a1a"), 5);
        b.due(x.count(3), 0);
        b.due(b.ask(""), 0);
        b.due(x.count(5), 0);
        b.due(b.ask("~ \n}{!@[`"), 0);
        b.due(b.ask("a\na~a"), 3);
        for (int bad : new int[] {0, 9, 11, 13, 31, 127, 128, 255}) {
            b.due(b.ask("now now" + (char) bad), NONE);
            b.due(x.count(3), 0);
            b.due(x.count(5), 3);
        }
        b.due(b.ask("a ".repeat(200)), 200);
        b.due(x.asked(209), 2);
        b.due(x.asked(210), NONE);
        b.due(x.asked(699), 2);
        b.due(x.asked(700), NONE);
        b.due(b.ask("a".repeat(400)), 0);

        x = b.begin(11);
        b.nameCues("please", "now");
        b.due(x.asked(0), NONE);
        b.due(x.asked(10), NONE);
        b.due(b.ask("now or never, please"), 2);
        b.due(x.asked(0), 1);
        b.due(x.asked(10), 1);
        b.due(x.asked(11), 0);
        b.due(x.asked(12), NONE);
        b.due(x.asked(500), 1);
        b.put("34567012");
        b.due(x.book(), 1);
        b.due(x.asked(500), 4);
        b.due(x.asked(501), 3);
        b.due(x.asked(502), NONE);
        for (int what : new int[] {1, -1, 9, 499, LOW, LOW + 9, HIGH}) {
            b.due(x.asked(what), NONE);
        }
        b.due(b.ask("\t"), NONE);
        b.due(x.asked(10), 1);
        x.first(1, false);
        b.due(x.asked(0), 0);
        b.due(b.ask("nothing"), 0);
        b.due(x.asked(0), 1);
        b.due(x.asked(10), NONE);
        // The cues of a question stay, whatever words come later.
        b.due(b.ask("please"), 1);
        b.put("other");
        b.due(x.word(0), 5);
        b.due(x.asked(10), 0);
    }

    private void things() {
        StagePair x = b.begin(12);
        for (int like : new int[] {0, -1, 10000, LOW, HIGH}) {
            b.due(x.thing(like), RANGE);
        }
        for (int t = 0; t < 40; t++) {
            b.due(x.thing(t == 0 ? 1 : 9999), t);
        }
        b.due(x.thing(5), FULL);
        b.due(x.thing(0), RANGE);
        b.due(x.count(0), 40);
        b.due(x.about(0, 0), 1);
        b.due(x.about(39, 0), 9999);
    }

    private void rows() {
        StagePair x = b.begin(13);
        b.due(x.row(0), RANGE);
        b.haveThings(new String[] {"AB", "B", "", "ACH"}, 1, 1, 1, 1);
        b.due(x.count(3), 0);
        String[] tried = {"A", "AB", "ABC", "BA", "B", "AC", "ACHA", "ACG", "HHHHHH", ""};
        int[] dues = {-13, -12, -12, -12, -12, -13, -12, 3, 6, 0};
        for (int i = 0; i < tried.length; i++) {
            b.put(tried[i]);
            b.due(x.row(2), dues[i]);
            b.due(x.count(3), 0);
        }
        for (String none : new String[] {"AAAAAAA", "I", "a", "A B", "@"}) {
            b.put(none);
            b.due(x.row(2), NONE);
            b.due(x.count(3), 0);
        }
        for (int t : new int[] {-1, 4, LOW, HIGH}) {
            b.put("H");
            b.due(x.row(t), RANGE);
            b.due(x.count(3), 0);
        }
        // A thing's own old row is not in the way; a bad one leaves it.
        b.put("ABA");
        b.due(x.row(0), 3);
        b.put("BB");
        b.due(x.row(0), -12);
        b.due(x.about(0, 1), 3);
        b.due(x.about(0, 12), 0);
        // 1 comes ahead of 2 and of 3.
        x.first(1, false);
        b.put("BB");
        b.due(x.row(2), -11);
        x.first(1, true);
        x.may(2, 0, false);
        b.put("AC");
        b.due(x.row(2), -11);
        b.put("");
        b.due(x.row(3), 0);
        b.put("AC");
        b.due(x.row(3), -11);
        x.may(2, 0, true);
        b.put("AC");
        b.due(x.row(3), 2);
        b.put("A");
        b.due(x.row(1), -13);
    }

    private void safety() {
        StagePair x = b.begin(14);
        b.haveThings(new String[] {"AAA", "", "BBBBBB"}, 17, 18, 9999);
        b.due(x.about(0, 0), 17);
        b.due(x.about(2, 0), 9999);
        b.due(x.about(0, 1), 3);
        b.due(x.about(1, 1), 0);
        b.due(x.about(1, 2), NONE);
        b.due(x.about(1, 10), NONE);
        b.due(x.about(2, 15), 1);
        b.due(x.about(2, 16), NONE);
        b.due(x.about(0, 2), 2);
        for (int bad : new int[] {-1, 3, 9, LOW, HIGH, LOW + 9}) {
            b.due(x.about(0, bad), NONE);
        }
        for (int bad : new int[] {-1, 3, LOW, HIGH}) {
            b.due(x.about(bad, 0), NONE);
        }
        // CAA is made of AAA by one cough, and of CCA too: seen alone.
        b.put("CCA");
        b.due(x.row(1), 3);
        b.due(x.about(0, 2), 1);
        b.due(x.about(1, 2), 1);
        b.due(x.about(2, 2), 2);
        // Now another thing's row comes of AAA by a change.
        b.put("CAA");
        b.due(x.row(1), 3);
        b.due(x.about(0, 2), 0);
        b.due(x.about(1, 2), 0);
        // By one taken away: CAAA makes AAA, not the other way.
        b.put("CAAA");
        b.due(x.row(1), 4);
        b.due(x.about(1, 2), 0);
        b.due(x.about(0, 2), 1);
        // B is made of A by a change, and of BB by one taken away.
        b.begin(14).thing(1);
        b.put("A");
        b.due(b.x.row(0), 1);
        b.due(b.x.about(0, 2), 2);
        b.x.thing(1);
        b.put("BBBBB");
        b.due(b.x.row(1), 5);
        b.due(b.x.about(0, 2), 2);
        b.put("BB");
        b.due(b.x.row(1), 2);
        b.due(b.x.about(0, 2), 1);
        b.due(b.x.about(1, 2), 1);
    }

    private void costAndMeaning() {
        StagePair x = b.begin(15);
        b.haveThings(new String[] {"A", "", "BBBBBB", "CD"}, 10, 100, 9999, 3);
        b.due(x.cost(), 10 + 6 * 9999 + 6);
        b.put("");
        b.due(x.row(2), 0);
        b.due(x.cost(), 16);

        x = b.begin(16);
        b.nameCues("a", "b", "c");
        b.haveThings(new String[] {"", "AB", "BA", "C"}, 1, 1, 1, 1);
        b.due(x.means(), NONE);
        b.due(b.ask(""), 0);
        b.due(x.means(), NONE);
        b.due(b.ask("b a"), 2);
        b.due(x.means(), 2);
        b.due(b.ask("a"), 1);
        b.due(x.means(), NONE);
        b.due(b.ask("a b c"), 3);
        b.due(x.means(), NONE);
        b.due(b.ask("x c y"), 1);
        b.due(x.means(), 3);
        b.due(b.ask("b a" + (char) 1), NONE);
        b.due(x.means(), 3);
        b.put("BB");
        b.due(x.row(3), 2);
        b.due(x.means(), NONE);

        x = b.begin(17);
        b.nameCues("a", "b", "c");
        b.haveThings(new String[] {"", "AB", "BA", "CA", "CC", "BBC"}, 1, 1, 1, 1, 1, 1);
        b.due(x.heard(), 0);
        b.due(b.ask("a b"), 2);
        b.due(x.heard(), 1L << 1);
        b.due(b.ask("a"), 1);
        b.due(x.heard(), 1L << 1 | 1L << 2 | 1L << 3);
        b.due(b.ask("c b"), 2);
        b.due(x.heard(), 1L << 1 | 1L << 3 | 1L << 4);
        b.due(b.ask("b c"), 2);
        b.due(x.heard(), 1L << 2 | 1L << 4 | 1L << 5);
        b.due(b.ask(""), 0);
        b.due(x.heard(), 0);
        b.put("B");
        b.due(x.row(2), -13);
        b.put("H");
        b.due(x.row(2), 1);
        b.due(x.heard(), 1L << 2);
        b.due(b.ask("a a a a a a a"), 7);
        b.due(x.heard(), 0);
        x = b.begin(17);
        b.nameCues("a");
        for (int t = 0; t < 40; t++) {
            x.thing(1);
        }
        b.put("A");
        b.due(x.row(39), 1);
        b.due(b.ask("a"), 1);
        b.due(x.heard(), 1L << 39);
        b.due(x.about(39, 2), 2);
    }

    private void shortest() {
        StagePair x = b.begin(18);
        b.due(x.shortest(1), RANGE);
        for (int like : new int[] {1, 2, 3, 4, 5, 6, 7, 8}) {
            x.thing(like);
        }
        for (int n : new int[] {0, -1, 8, LOW, HIGH}) {
            b.due(x.shortest(n), RANGE);
        }
        b.due(x.length(0), NONE);
        b.due(x.shortest(4), 10);
        // Three rows of one cue, and four that go on from the fourth.
        b.due(x.shortest(7), 7 + 6 + 5 + 2 * (4 + 3 + 2 + 1));
        int[] dues = {2, 2, 2, 2, 1, 1, 1};
        for (int t = 0; t < 7; t++) {
            b.due(x.length(t), dues[t]);
        }
        b.due(x.length(7), NONE);
        b.due(x.shortest(5), 5 + 4 + 3 + 2 * (2 + 1));
        b.due(x.length(5), NONE);

        StagePair y = b.begin(19);
        b.due(y.length(0), NONE);
        y.thing(10);
        y.thing(10);
        y.thing(10);
        y.first(2, false);
        y.first(3, false);
        b.due(y.shortest(3), 50);
        b.due(y.length(0), 1);
        b.due(y.length(1), 2);
        b.due(y.length(2), 2);
        b.due(y.length(3), NONE);
        b.due(y.length(-1), NONE);
        b.due(y.length(LOW), NONE);
        b.due(y.length(HIGH), NONE);
        b.due(y.shortest(1), 10);
        b.due(y.length(0), 1);
        b.due(y.length(1), NONE);
        // One without a cost leaves what was told.
        b.due(y.shortest(2), 20);
        y.first(0, false);
        y.first(1, false);
        b.due(y.shortest(2), NONE);
        b.due(y.shortest(9), RANGE);
        b.due(y.length(1), 1);
    }

    private void shortestAtEdges() {
        StagePair x = b.begin(18);
        for (int t = 0; t < 7; t++) {
            x.thing(1);
        }
        // Cues 4 .. 7 never help.
        for (int k = 0; k < 3; k++) {
            x.first(k, false);
        }
        b.due(x.shortest(1), 1);
        // Behind 3 only 3 may stand: one row alone.
        for (int k = 0; k < 3; k++) {
            x.may(k, 3, false);
        }
        b.due(x.shortest(1), 1);
        b.due(x.shortest(2), NONE);
        b.due(x.length(1), NONE);
        // 3 3 3 3 3 and each begin of it with a 0 behind: 30, 330, 3330, 33330 and 33333.
        x.may(0, 3, true);
        for (int k = 0; k < 4; k++) {
            x.may(k, 0, false);
        }
        b.due(x.shortest(5), 2 + 3 + 4 + 5 + 5);
        int[] dues = {2, 3, 4, 5, 5};
        for (int t = 0; t < 5; t++) {
            b.due(x.length(t), dues[t]);
        }
        b.due(x.shortest(6), NONE);
        b.due(x.length(4), 5);
        // Rows that things have are aside.
        b.begin(18);
        b.haveThings(new String[] {"", "AAAAAA", "B"}, 9999, 9999, 9999);
        b.due(b.x.shortest(3), 3 * 9999);
        // Of rows of lengths with one cost the least by thing: 1 1 1 2 2 and 2 1 1 2 1 cost the same.
        StagePair y = b.begin(18);
        for (int t = 0; t < 5; t++) {
            y.thing(4);
        }
        b.due(y.shortest(5), 4 * 7);
        b.due(y.length(0), 1);
        b.due(y.length(2), 1);
        b.due(y.length(3), 2);
        b.due(y.length(4), 2);
    }

    /** A new room with these likes, cues that aren't first ones, and pairs (ahead, behind) that may not be. */
    private void likesWithout(int[] likes, String notFirst, String... pairs) {
        StagePair x = b.begin(18);
        for (int like : likes) {
            x.thing(like);
        }
        for (char c : notFirst.toCharArray()) {
            x.first(c - '0', false);
        }
        for (String p : pairs) {
            x.may(p.charAt(1) - '0', p.charAt(0) - '0', false);
        }
    }

    private void dueLengths(int cost, int... lengths) {
        b.due(b.x.shortest(lengths.length), cost);
        for (int t = 0; t < lengths.length; t++) {
            b.due(b.x.length(t), lengths[t]);
        }
    }

    private void shortestAlike() {
        String[] twoCues = {"02", "12", "22", "32", "03", "13", "23", "33"};
        // 2 2 2 2 and 2 3 3 1 cost the same, as do 2 2 2 2 and 1 2 3 3.
        likesWithout(new int[] {1, 1, 1, 2}, "23", twoCues);
        dueLengths(10, 2, 2, 2, 2);
        likesWithout(new int[] {2, 1, 1, 1}, "23", twoCues);
        dueLengths(10, 1, 2, 3, 3);
        // 1 2 2 2 2 costs as much.
        likesWithout(new int[] {5, 3, 3, 2, 1}, "2", "01", "21", "02", "12", "32", "03", "13", "33");
        dueLengths(23, 1, 1, 2, 3, 3);
        // 1 2 2 2 2 2 2 costs as much.
        likesWithout(new int[] {2, 2, 2, 1, 1, 1, 1}, "3", "20", "21", "22", "32");
        dueLengths(18, 1, 1, 2, 2, 2, 3, 3);
        // The first call of a room needs rows of five.
        likesWithout(new int[] {1, 1, 1, 1, 1}, "012", "31", "32", "00", "01", "02", "03");
        dueLengths(19, 2, 3, 4, 5, 5);
    }
}
