/** Boundaries that promises 47 to 54 name: books by days, turns and steps of shows, counts. */
public final class ShowEdgesTest extends Edges {
    private static final int NO_SUCH = -9;
    private static final String PLAIN = "01234567";
    private static final String TURNED = "76543210";

    public static void main(String[] args) throws Exception {
        new ShowEdgesTest().runAll();
    }

    private int tellOn(int day, int from, String digits) {
        put(digits);
        return x.bookOn(day, from);
    }

    // ---- 47: bookOn

    private void booksTold() {
        edge("47", "THE TAPE (read, and empty then; as book()) is what is told on a day, from a day on: how many are told");
        due(tellOn(0, 0, TURNED), 1);
        dueEmptyTape();
        due(tellOn(0, 9999, TURNED), 2);
        due(tellOn(9999, 0, "10234567"), 3);
        due(tellOn(9999, 9999, PLAIN), 4);
        due(x.count(7), 4);
        // The book itself is another matter.
        dueBook(PLAIN);
        due(x.digitOn(0, 0, 0), 7);
        due(x.digitOn(0, 0, 9999), 1);
        due(x.digitOn(0, 9999, 9998), 7);
        due(x.digitOn(0, 9999, 9999), 0);
    }

    private void noSuchDays() {
        edge("47", "RANGE: no such days, or a day of telling below the latest");
        for (int bad : ints(-1, 10000, LOW, HIGH)) {
            due(tellOn(bad, 5, TURNED), RANGE);
            dueEmptyTape();
            due(tellOn(5, bad, TURNED), RANGE);
            dueEmptyTape();
            due(tellOn(bad, bad, TURNED), RANGE);
        }
        due(x.count(7), 0);
        due(tellOn(5, 9999, TURNED), 1);
        due(tellOn(4, 9999, PLAIN), RANGE);
        dueEmptyTape();
        due(tellOn(0, 0, PLAIN), RANGE);
        due(x.count(7), 1);
        due(tellOn(5, 0, PLAIN), 2);
        due(tellOn(6, 0, PLAIN), 3);
        due(tellOn(5, 0, PLAIN), RANGE);
        // Ahead of NONE.
        due(tellOn(5, 0, ""), RANGE);
        due(tellOn(10000, 0, ""), RANGE);
        due(tellOn(6, 10000, "0"), RANGE);
    }

    private void refusedDayIsNone() {
        edge("47", "RANGE: no such days, or a day of telling below the latest");
        // What was refused is no day of telling: an earlier day can still come.
        due(tellOn(9, 10000, TURNED), RANGE);
        due(tellOn(9, 0, "x"), NONE);
        due(tellOn(3, 0, TURNED), 1);
    }

    private void noBookOfDay() {
        edge("47", "NONE: it is none");
        for (String none : texts("", "0123456", "012345670", "01234566", "01234568", "/1234567", "0123456W",
            "\0\1\2\3\4\5\6\7", "0123456" + (char) 183)) {
            due(tellOn(9, 9, none), NONE);
            dueEmptyTape();
        }
        due(x.count(7), 0);
        due(x.digitOn(0, 9999, 9999), 0);
    }

    private void fullOfDays() {
        edge("47", "FULL");
        for (int n = 1; n <= 50; n++) {
            due(tellOn(n, 10, n == 50 ? TURNED : PLAIN), n);
        }
        due(tellOn(50, 10, PLAIN), FULL);
        dueEmptyTape();
        due(tellOn(9999, 9999, PLAIN), FULL);
        due(x.count(7), 50);
        due(x.digitOn(0, 10, 9999), 7);
        due(x.digitOn(0, 9999, 9999), 7);
        due(x.digitOn(0, 10, 49), 0);
        // RANGE and NONE come ahead of it; a day that was refused with FULL is none of telling.
        due(tellOn(49, 10, PLAIN), RANGE);
        due(tellOn(50, 10, "0"), NONE);
        due(tellOn(50, 10, PLAIN), FULL);
    }

    // ---- 48: digitOn

    private void digitsOfDays() {
        edge("48", "The DIGIT of a CUE for a day, as known on a day");
        for (int k = 0; k < 8; k++) {
            due(x.digitOn(k, 0, 0), k);
            due(x.digitOn(k, 9999, 9999), k);
        }
        due(take(TURNED), 1);
        due(x.digitOn(0, 0, 0), 0);
        due(tellOn(5, 10, TURNED), 1);
        due(x.digitOn(0, 10, 5), 7);
        due(x.digitOn(7, 9999, 9999), 0);
        due(x.digitOn(0, 9, 5), 0);
        due(x.digitOn(0, 10, 4), 0);
        due(x.digitOn(0, 9999, 4), 0);
        // Told of a day that is gone already, and of one day twice: what was told last.
        due(tellOn(20, 10, "12345670"), 2);
        due(x.digitOn(0, 10, 19), 7);
        due(x.digitOn(0, 10, 20), 1);
        due(tellOn(20, 10, "23456701"), 3);
        due(x.digitOn(0, 10, 20), 2);
        // The latest first day, though an earlier one was told later.
        due(tellOn(21, 9, "34567012"), 4);
        due(x.digitOn(0, 9, 21), 3);
        due(x.digitOn(0, 10, 21), 2);
        due(x.digitOn(0, 8, 21), 0);
    }

    private void noSuchDigitOn() {
        edge("48", "RANGE");
        for (int bad : ints(-1, LOW, HIGH)) {
            due(x.digitOn(bad, 1, 1), RANGE);
            due(x.digitOn(1, bad, 1), RANGE);
            due(x.digitOn(1, 1, bad), RANGE);
        }
        due(x.digitOn(8, 1, 1), RANGE);
        due(x.digitOn(1, 10000, 1), RANGE);
        due(x.digitOn(1, 1, 10000), RANGE);
        due(tellOn(1, 1, TURNED), 1);
        due(x.digitOn(8, 1, 1), RANGE);
        due(x.digitOn(1, 10000, 1), RANGE);
        due(x.digitOn(1, 1, 10000), RANGE);
        due(x.digitOn(1, 9999, 9999), 6);
    }

    // ---- 49: turnOf

    /** Things 0 (A), 1 (B) and 2 (without a row). */
    private StagePair stage() {
        nameCues("a", "b");
        haveThings(texts("A", "B", ""), 3, 2, 1);
        return x;
    }

    private void turnsTaken() {
        edge("49", "A TURN: its number");
        stage();
        due(ask("a"), 1);
        due(x.turnOf(0), 0);
        due(x.turnOf(2), 1);
        due(ask(""), 0);
        due(x.turnOf(1), 2);
        due(x.count(8), 3);
        due(x.count(9), 3);
        // Without an answer, too: an ask() without cues is one.
        due(x.shown(2, 2, 1), NONE);
        due(x.shown(0, 2, 1), 0);
    }

    private void turnOfNoThing() {
        edge("49", "RANGE: no such THING");
        due(x.turnOf(0), RANGE);
        stage();
        // Ahead of STATE.
        for (int t : ints(-1, 3, 40, LOW, HIGH)) {
            due(x.turnOf(t), RANGE);
        }
        due(ask("a"), 1);
        for (int t : ints(-1, 3, 40, LOW, HIGH)) {
            due(x.turnOf(t), RANGE);
        }
        due(x.count(8), 0);
        due(x.count(9), 0);
        due(x.turnOf(2), 0);
    }

    private void nothingWasAsked() {
        edge("49", "STATE: nothing was asked");
        stage();
        due(x.turnOf(0), STATE);
        due(ask("\t"), NONE);
        due(x.turnOf(0), STATE);
        put("a");
        due(x.mannerly(), 0);
        due(x.turnOf(0), STATE);
        due(x.count(8), 0);
        due(x.count(9), 0);
        due(x.ask(), 0);
        due(x.turnOf(0), 0);
        due(ask("\t"), NONE);
        due(x.turnOf(0), 1);
    }

    private void fullOfTurns() {
        edge("49", "FULL: the 101st TURN, the 301st step");
        stage();
        due(ask("a"), 1);
        for (int i = 0; i < 100; i++) {
            due(x.turnOf(i % 3), i);
        }
        due(x.turnOf(0), FULL);
        due(x.count(8), 100);
        due(x.count(9), 100);
        due(x.turnOf(3), RANGE);
        due(x.tally(99, 0), 100);
        due(x.tally(100, 0), NO_SUCH);
        due(x.shown(99, 99, 0), 0);
        due(x.shown(100, 99, 0), NO_SUCH);
        due(x.putRight(99, 1), 100);
        due(x.turnOf(0), FULL);
    }

    private void turnAtTheLastStep() {
        edge("49", "FULL: the 101st TURN, the 301st step");
        stage();
        due(ask("a"), 1);
        due(x.turnOf(0), 0);
        for (int step = 1; step < 299; step++) {
            due(x.putRight(0, 1), step);
        }
        // The 300th step is a turn, the 301st can't be.
        due(x.turnOf(2), 1);
        due(x.shown(1, 299, 3), 299);
        due(x.turnOf(2), FULL);
        due(x.putRight(0, 0), FULL);
        due(x.count(8), 2);
        due(x.count(9), 300);
        due(x.shown(0, 299, 0), 1);
    }

    // ---- 50: putRight

    private void putRightAgain() {
        edge("50", "A TURN is PUT RIGHT: the step");
        stage();
        due(ask("a"), 1);
        due(x.turnOf(1), 0);
        due(x.putRight(0, 0), 1);
        due(x.putRight(0, 2), 2);
        due(x.turnOf(1), 1);
        due(x.putRight(0, 2), 4);
        due(x.putRight(1, 0), 5);
        due(x.count(9), 6);
        due(x.count(8), 2);
        int[] things = {1, 0, 2, 2, 2, 2};
        for (int step = 0; step < 6; step++) {
            due(x.shown(0, step, 0), things[step]);
        }
    }

    private void putRightOfNone() {
        edge("50", "RANGE: no such TURN, THING");
        stage();
        due(x.putRight(0, 0), RANGE);
        due(ask("a"), 1);
        due(x.putRight(0, 0), RANGE);
        due(x.turnOf(1), 0);
        for (int bad : ints(-1, LOW, HIGH)) {
            due(x.putRight(bad, 0), RANGE);
            due(x.putRight(0, bad), RANGE);
            due(x.putRight(bad, bad), RANGE);
        }
        due(x.putRight(1, 0), RANGE);
        due(x.putRight(0, 3), RANGE);
        due(x.count(9), 1);
        due(x.shown(0, 0, 0), 1);
        due(x.thing(1), 3);
        due(x.putRight(0, 3), 1);
    }

    private void putRightBeyond() {
        edge("50", "FULL: the 301st step");
        stage();
        due(ask("a"), 1);
        due(x.turnOf(1), 0);
        for (int step = 1; step < 300; step++) {
            due(x.putRight(0, step == 299 ? 2 : 0), step);
        }
        due(x.putRight(0, 0), FULL);
        due(x.count(9), 300);
        due(x.shown(0, 299, 0), 2);
        due(x.shown(0, 300, 0), NO_SUCH);
        // RANGE comes ahead of it.
        due(x.putRight(1, 0), RANGE);
        due(x.putRight(0, 3), RANGE);
        due(x.tally(299, 12), 1);
        due(x.tally(299, 10), 0);
    }

    // ---- 51: shown

    private void shownAtSteps() {
        edge("51", "Of TURN i as known at a step (0 .. the latest one), what 0: the THING, 1: the ANSWER (NONE), 2: 1 if RIGHT, 3: the step of the TURN");
        stage();
        due(ask("a"), 1);
        due(x.turnOf(1), 0);
        due(ask("b b"), 2);
        due(x.turnOf(0), 1);
        due(x.putRight(0, 0), 2);
        int[][] dues = {{0, 0, 1, 0, 0, 0}, {0, 1, 1, 0, 0, 0}, {0, 2, 0, 0, 1, 0}, {1, 1, 0, NONE, 0, 1}, {1, 2, 0, NONE, 0, 1}};
        for (int[] d : dues) {
            for (int what = 0; what < 4; what++) {
                due(x.shown(d[0], d[1], what), d[2 + what]);
            }
        }
        // The answer stays as it was told.
        due(giveRow(1, ""), 0);
        due(giveRow(2, "BB"), 2);
        due(x.likeliest(), 2);
        due(x.shown(1, 2, 1), NONE);
        due(x.turnOf(2), 2);
        due(x.shown(2, 3, 1), 2);
        due(x.shown(2, 3, 2), 1);
    }

    private void nothingShown() {
        edge("51", "-9 when there is none such, or the TURN came behind that step");
        stage();
        due(x.shown(0, 0, 0), NO_SUCH);
        due(ask("a"), 1);
        due(x.shown(0, 0, 0), NO_SUCH);
        due(x.turnOf(0), 0);
        due(x.putRight(0, 1), 1);
        due(x.turnOf(0), 1);
        for (int what = 0; what < 4; what++) {
            // Turn 1 is step 2.
            due(x.shown(1, 0, what), NO_SUCH);
            due(x.shown(1, 1, what), NO_SUCH);
            for (int bad : ints(-1, LOW, HIGH)) {
                due(x.shown(bad, 2, what), NO_SUCH);
                due(x.shown(0, bad, what), NO_SUCH);
            }
            due(x.shown(2, 2, what), NO_SUCH);
            due(x.shown(0, 3, what), NO_SUCH);
        }
        due(x.shown(1, 2, 3), 2);
        for (int what : ints(-1, 4, 10, LOW, HIGH)) {
            due(x.shown(0, 0, what), NO_SUCH);
        }
    }

    // ---- 52: tally

    private void talliesAtSteps() {
        edge("52", "As known at a step, what 0: TURNS, 1: RIGHT ones, 2: without an ANSWER");
        stage();
        due(ask("a"), 1);
        due(x.turnOf(1), 0);
        due(x.putRight(0, 0), 1);
        due(ask("b b"), 2);
        due(x.turnOf(0), 1);
        due(x.putRight(0, 1), 3);
        int[][] dues = {{1, 0, 0}, {1, 1, 0}, {2, 1, 1}, {2, 0, 1}};
        for (int step = 0; step < 4; step++) {
            for (int what = 0; what < 3; what++) {
                due(x.tally(step, what), dues[step][what]);
            }
        }
    }

    private void talliesOfThings() {
        edge("52", "10 + t: TALLY of THING t");
        nameCues("a");
        addThings(40, 1);
        due(ask("a"), 1);
        due(x.turnOf(0), 0);
        due(x.turnOf(39), 1);
        due(x.turnOf(39), 2);
        due(x.putRight(0, 39), 3);
        due(x.tally(0, 10), 1);
        due(x.tally(3, 10), 0);
        due(x.tally(0, 49), 0);
        due(x.tally(2, 49), 2);
        due(x.tally(3, 49), 3);
        due(x.tally(3, 50), NO_SUCH);
        due(x.tally(3, 9), NO_SUCH);
    }

    private void nothingTallied() {
        edge("52", "-9 when there is none such");
        stage();
        for (int what : ints(0, 1, 2, 10)) {
            due(x.tally(0, what), NO_SUCH);
            due(x.tally(-1, what), NO_SUCH);
        }
        due(ask("a"), 1);
        due(x.turnOf(0), 0);
        due(x.tally(0, 12), 0);
        for (int step : ints(-1, 1, 300, LOW, HIGH)) {
            for (int what : ints(0, 1, 2, 10)) {
                due(x.tally(step, what), NO_SUCH);
            }
        }
        for (int what : ints(-1, 3, 9, 13, 50, LOW, LOW + 9, LOW + 10, HIGH)) {
            due(x.tally(0, what), NO_SUCH);
        }
        // A thing that comes later is one from then on, at all steps.
        due(x.thing(1), 3);
        due(x.tally(0, 13), 0);
    }

    // ---- 53: regret

    private void regretted() {
        edge("53", "REGRET of the first n THINGS, as known now");
        nameCues("a");
        haveThings(texts("AAAAAA", "B"), 9999, 1);
        due(x.regret(1), 0);
        due(ask("a"), 1);
        due(x.turnOf(0), 0);
        due(x.regret(1), 6 - 1);
        due(x.turnOf(1), 1);
        due(x.regret(1), 5);
        due(x.regret(2), 7 - 2);
        due(x.putRight(0, 1), 2);
        due(x.regret(2), 0);
        due(x.regret(1), 0);
        due(x.putRight(1, 0), 3);
        due(x.putRight(0, 0), 4);
        due(x.regret(2), 12 - 2);
        due(x.thing(1), 2);
    }

    private void greatestRegret() {
        edge("53", "REGRET of the first n THINGS, as known now");
        nameCues("a");
        String[] rows = {"AAAAAA", "AAAAAB", "AAAAAC", "AAAAAD", "AAAAAE", "AAAAAF", "AAAAAG"};
        haveThings(rows, 1, 1, 1, 1, 1, 1, 1);
        due(ask("a"), 1);
        for (int i = 0; i < 100; i++) {
            due(x.turnOf(6), i);
        }
        // Thing 6 alone was held up: a row of one cue for it, whatever the six others have.
        due(x.regret(7), 600 - 100);
        due(x.regret(6), 0);
    }

    private void regretOfNone() {
        edge("53", "NONE: one has no ROW, or there are no such ROWS");
        haveThings(texts("A", "B", ""), 1, 1, 1);
        due(x.regret(2), 0);
        due(x.regret(3), NONE);
        due(giveRow(0, ""), 0);
        due(x.regret(1), NONE);
        due(x.regret(2), NONE);
        due(giveRow(0, "A"), 1);
        due(giveRow(2, "C"), 1);
        due(x.regret(3), 0);
        for (int k = 1; k < 4; k++) {
            due(x.first(k, false), 1);
        }
        for (int k = 0; k < 4; k++) {
            due(x.may(k, 0, false), 1);
        }
        // One row can be, and no second, though nothing was held up.
        due(x.regret(1), 0);
        due(x.regret(2), NONE);
        due(x.first(0, false), 1);
        due(x.regret(1), NONE);
    }

    private void regretOfNoN() {
        edge("53", "RANGE as shortest()");
        due(x.regret(1), RANGE);
        due(x.regret(0), RANGE);
        addThings(7, 1);
        // Ahead of NONE: no thing has a row.
        due(x.regret(7), NONE);
        for (int n : ints(0, -1, 8, LOW, HIGH)) {
            due(x.regret(n), RANGE);
        }
        due(x.thing(1), 7);
        due(x.regret(8), RANGE);
        begin("promise 53 (not so many things)");
        haveThings(texts("A", "B"), 1, 1);
        due(x.regret(2), 0);
        due(x.regret(3), RANGE);
    }

    private void lengthStays() {
        edge("53", "(length() stays.)");
        haveThings(texts("A", "B", "C"), 1, 1, 9);
        due(x.regret(3), 0);
        due(x.length(0), NONE);
        for (int k = 2; k < 4; k++) {
            due(x.first(k, false), 1);
        }
        due(x.shortest(3), 9 + 4);
        due(x.regret(2), 0);
        due(x.regret(3), 0);
        due(x.regret(1), 0);
        due(x.length(0), 2);
        due(x.length(1), 2);
        due(x.length(2), 1);
    }

    // ---- 54: count

    private void countsAtFirst() {
        edge("54", "What 0: THINGS, 1: NIGHTS, 2: CUES that have a WORD, 3: bytes of THE TAPE, 4: MISHEARD at most");
        for (int what = 0; what <= 9; what++) {
            due(x.count(what), 0);
        }
        nameAllCues();
        due(x.count(2), 8);
        due(name(0, "other"), 5);
        due(x.count(2), 8);
        addThings(40, 1);
        due(x.thing(1), FULL);
        due(x.count(0), 40);
        due(tell("A 0"), 0);
        due(x.count(1), 1);
        put("a".repeat(400));
        due(x.count(3), 400);
        due(x.misheard(6), 0);
        due(x.count(4), 6);
    }

    private void countsOfShows() {
        edge("54", "5: CUES of the latest ask() that told a number (0), 6: LISTED names, 7: BOOKS BY DAYS, 8: TURNS, 9: steps");
        stage();
        due(ask("\t"), NONE);
        due(x.count(5), 0);
        due(ask("a ".repeat(200)), 200);
        due(x.count(5), 200);
        due(ask("a\t"), NONE);
        due(x.count(5), 200);
        put("abc");
        due(x.list(), 0);
        due(x.count(6), 1);
        due(tellOn(0, 0, PLAIN), 1);
        due(x.count(7), 1);
        due(x.turnOf(0), 0);
        due(x.putRight(0, 1), 1);
        due(x.count(8), 1);
        due(x.count(9), 2);
        due(ask(""), 0);
        due(x.count(5), 0);
    }

    private void countOfOthers() {
        edge("54", "NONE for others");
        for (int what : ints(-1, 10, 11, LOW, HIGH)) {
            due(x.count(what), NONE);
        }
        due(x.count(9), 0);
    }
}
