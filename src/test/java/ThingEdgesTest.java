/** Boundaries that promises 12 to 19 name: things, rows, what they mean, shortest rows. */
public final class ThingEdgesTest extends Edges {
    public static void main(String[] args) throws Exception {
        new ThingEdgesTest().runAll();
    }

    // ---- 12: thing

    private void thingsCome() {
        edge("12", "A THING comes: its number");
        due(x.thing(1), 0);
        due(x.thing(9999), 1);
        due(x.thing(1), 2);
        due(x.count(0), 3);
        due(x.about(0, 0), 1);
        due(x.about(1, 0), 9999);
        due(x.about(2, 1), 0);
    }

    private void noSuchLike() {
        edge("12", "RANGE");
        for (int like : ints(0, -1, 10000, LOW, HIGH)) {
            due(x.thing(like), RANGE);
        }
        due(x.count(0), 0);
        due(x.thing(5), 0);
        addThings(39, 1);
        // Ahead of FULL.
        for (int like : ints(0, 10000)) {
            due(x.thing(like), RANGE);
        }
        due(x.count(0), 40);
    }

    private void fullOfThings() {
        edge("12", "FULL");
        addThings(39, 7);
        due(x.thing(9999), 39);
        due(x.thing(1), FULL);
        due(x.thing(9999), FULL);
        due(x.count(0), 40);
        due(x.about(39, 0), 9999);
        due(x.about(40, 0), NONE);
    }

    // ---- 13: row

    private void rowOfBytes() {
        edge("13", "a byte a CUE (its number and 65; no byte: none any more): how long it is");
        due(x.thing(1), 0);
        due(giveRow(0, ""), 0);
        due(giveRow(0, "A"), 1);
        dueEmptyTape();
        dueRow(0, "A");
        due(giveRow(0, "HGFEDC"), 6);
        dueRow(0, "HGFEDC");
        due(giveRow(0, "AH"), 2);
        dueRow(0, "AH");
        due(giveRow(0, ""), 0);
        dueRow(0, "");
        due(x.about(0, 2), NONE);
        // None at all is never wrong, and then it is in no other's way.
        for (int k = 0; k < 8; k++) {
            x.first(k, false);
        }
        called(8);
        due(giveRow(0, ""), 0);
        due(x.first(0, true), 1);
        due(x.thing(1), 1);
        due(giveRow(1, "AH"), 2);
    }

    private void rowOfNoThing() {
        edge("13", "RANGE: no such THING");
        due(giveRow(0, "A"), RANGE);
        dueEmptyTape();
        addThings(2, 1);
        for (int t : ints(-1, 2, 40, LOW, HIGH)) {
            due(giveRow(t, "A"), RANGE);
            dueEmptyTape();
            // Ahead of NONE.
            due(giveRow(t, "I"), RANGE);
            due(giveRow(t, ""), RANGE);
        }
        dueRow(0, "");
        dueRow(1, "");
        due(giveRow(1, "A"), 1);
        // Ahead of what is wrong.
        due(giveRow(2, "A"), RANGE);
    }

    private void noRow() {
        edge("13", "NONE: it is none");
        due(x.thing(1), 0);
        due(giveRow(0, "BC"), 2);
        for (String none : texts("AAAAAAA", "@", "I", "a", "h", "A ", " A", "0", "A\0", "" + (char) 193, "BCBCBI")) {
            due(giveRow(0, none), NONE);
            dueEmptyTape();
        }
        due(giveRow(0, "A".repeat(400)), NONE);
        dueRow(0, "BC");
        // Ahead of what is wrong.
        due(x.first(0, false), 1);
        due(giveRow(0, "AI"), NONE);
        due(giveRow(0, "AAAAAAA"), NONE);
    }

    private void notNatural() {
        edge("13", "-10 less what is WRONG with it (-11 .. -13; the ROW stays)");
        due(x.thing(1), 0);
        due(giveRow(0, "C"), 1);
        due(x.first(7, false), 1);
        due(giveRow(0, "H"), -11);
        dueEmptyTape();
        dueRow(0, "C");
        due(giveRow(0, "AH"), 2);
        due(x.may(7, 0, false), 1);
        due(giveRow(0, "ABCDAH"), -11);
        due(giveRow(0, "AAAAAH"), -11);
        dueRow(0, "AH");
        due(giveRow(0, "ABHA"), 4);
        due(x.may(0, 7, false), 1);
        // What it has stays, though it is not natural now.
        dueRow(0, "ABHA");
        due(giveRow(0, "ABHA"), -11);
    }

    private void beginsOfRows() {
        edge("13", "-10 less what is WRONG with it (-11 .. -13; the ROW stays)");
        haveThings(texts("ABC", "", "HHHHHH", "D"), 1, 1, 1, 1);
        due(giveRow(1, "ABC"), -12);
        due(giveRow(1, "ABCA"), -12);
        due(giveRow(1, "ABCABC"), -12);
        due(giveRow(1, "HHHHHH"), -12);
        due(giveRow(1, "D"), -12);
        due(giveRow(1, "DDDDDD"), -12);
        due(giveRow(1, "AB"), -13);
        due(giveRow(1, "A"), -13);
        due(giveRow(1, "HHHHH"), -13);
        due(giveRow(1, "H"), -13);
        dueEmptyTape();
        dueRow(1, "");
        due(giveRow(1, "ABD"), 3);
        due(giveRow(1, "HHHHHG"), 6);
        due(giveRow(1, "D"), -12);
        dueRow(1, "HHHHHG");
        // Its own row is never in its way.
        due(giveRow(0, "ABC"), 3);
        due(giveRow(0, "ABCD"), 4);
        due(giveRow(0, "A"), 1);
        due(giveRow(0, "ABCDEF"), 6);
        // Others' rows, lower and higher ones.
        due(giveRow(3, "HHHHHG"), -12);
        due(giveRow(3, "AB"), -13);
    }

    private void firstWrongIsTold() {
        edge("13", "-10 less what is WRONG with it (-11 .. -13; the ROW stays)");
        haveThings(texts("AB", "CD", ""), 1, 1, 1);
        due(x.first(0, false), 1);
        due(giveRow(2, "AB"), -11);
        due(giveRow(2, "ABC"), -11);
        due(giveRow(2, "A"), -11);
        due(x.first(0, true), 1);
        due(giveRow(2, "A"), -13);
        due(x.may(4, 1, false), 1);
        due(giveRow(2, "ABE"), -11);
        due(giveRow(2, "ABF"), -12);
        due(giveRow(2, "CDBE"), -11);
        dueRow(2, "");
    }

    // ---- 14: about

    private void likesTold() {
        edge("14", "what 0: LIKE");
        due(x.thing(1), 0);
        due(x.thing(9999), 1);
        due(x.about(0, 0), 1);
        due(x.about(1, 0), 9999);
        due(x.about(2, 0), NONE);
    }

    private void rowLengthsTold() {
        edge("14", "1: how long its ROW is (0)");
        haveThings(texts("", "A", "BBBBBB"), 1, 1, 1);
        due(x.about(0, 1), 0);
        due(x.about(1, 1), 1);
        due(x.about(2, 1), 6);
        due(giveRow(2, ""), 0);
        due(x.about(2, 1), 0);
    }

    private void safeTold() {
        edge("14", "2: SAFE (NONE without a ROW)");
        haveThings(texts("", "AAA", ""), 1, 1, 1);
        due(x.about(0, 2), NONE);
        due(x.about(1, 2), 2);
        due(giveRow(2, "ABA"), 3);
        due(x.about(1, 2), 0);
        due(x.about(2, 2), 0);
        due(giveRow(2, "BBA"), 3);
        due(x.about(1, 2), 1);
        due(giveRow(2, "BBB"), 3);
        due(x.about(1, 2), 2);
        due(giveRow(1, ""), 0);
        due(x.about(1, 2), NONE);
        due(x.about(2, 2), 2);
    }

    private void cuesTold() {
        edge("14", "10 + i: the i-th CUE");
        haveThings(texts("H", "ABCDEF"), 1, 1);
        due(x.about(0, 10), 7);
        due(x.about(0, 11), NONE);
        due(x.about(1, 10), 0);
        due(x.about(1, 15), 5);
        due(x.about(1, 16), NONE);
        // A shorter row leaves nothing of the longer one.
        due(giveRow(1, "B"), 1);
        due(x.about(1, 10), 1);
        due(x.about(1, 11), NONE);
        due(x.about(1, 15), NONE);
    }

    private void nothingAbout() {
        edge("14", "NONE when there is none such");
        due(x.about(0, 0), NONE);
        due(x.about(0, 1), NONE);
        due(x.about(0, 2), NONE);
        haveThings(texts("AB", ""), 5, 5);
        for (int what : ints(-1, 3, 4, 9, 12, 20, LOW, LOW + 9, LOW + 10, HIGH)) {
            due(x.about(0, what), NONE);
        }
        due(x.about(1, 10), NONE);
        for (int t : ints(-1, 2, 40, LOW, HIGH)) {
            for (int what : ints(0, 1, 2, 10)) {
                due(x.about(t, what), NONE);
            }
        }
    }

    // ---- 15: cost

    private void costOfAll() {
        edge("15", "The COST of all");
        due(x.cost(), 0);
        addThings(39, 9999);
        due(x.cost(), 0);
        due(x.thing(1), 39);
        due(giveRow(39, "H"), 1);
        due(x.cost(), 1);
        due(giveRow(0, "AAAAAA"), 6);
        due(x.cost(), 1 + 6 * 9999);
        due(giveRow(0, "AAAAA"), 5);
        due(x.cost(), 1 + 5 * 9999);
        due(giveRow(0, ""), 0);
        due(x.cost(), 1);
    }

    private void greatestCost() {
        edge("15", "The COST of all");
        addThings(40, 9999);
        for (int t = 0; t < 40; t++) {
            due(giveRow(t, "ABCD" + (char) ('A' + t / 8) + (char) ('A' + t % 8)), 6);
        }
        due(x.cost(), 40L * 6 * 9999);
    }

    // ---- 16, 17: means, heard

    private void whatIsMeant() {
        edge("16", "The THING that the CUES of the latest ask() MEAN: it");
        nameAllCues();
        addThings(39, 1);
        due(x.thing(1), 39);
        due(giveRow(39, "HGFEDC"), 6);
        due(giveRow(0, "A"), 1);
        due(ask("h g f e d c"), 6);
        due(x.means(), 39);
        due(ask("a"), 1);
        due(x.means(), 0);
        due(ask("\t"), NONE);
        due(x.means(), 0);
        // By rows as they are now.
        due(giveRow(0, ""), 0);
        due(x.means(), NONE);
        due(giveRow(7, "A"), 1);
        due(x.means(), 7);
    }

    private void nothingMeant() {
        edge("16", "NONE");
        due(x.means(), NONE);
        nameAllCues();
        due(ask(""), 0);
        due(x.means(), NONE);
        haveThings(texts("", "AB", "HGFEDC"), 1, 1, 1);
        // No cues are no one's row, though a thing has none.
        due(x.means(), NONE);
        for (String none : texts("a", "b", "b a", "a b a", "h g f e d", "h g f e d c a", "h g f e d d")) {
            due(ask(none), (none.length() + 1) / 2);
            due(x.means(), NONE);
        }
        due(ask("a b ".repeat(100)), 200);
        due(x.means(), NONE);
    }

    private void heardBits() {
        edge("17", "THINGS as which these are HEARD, as bits");
        due(x.heard(), 0);
        nameAllCues();
        addThings(40, 1);
        due(giveRow(0, "A"), 1);
        due(giveRow(31, "BA"), 2);
        due(giveRow(32, "CA"), 2);
        due(giveRow(39, "HHHHHH"), 6);
        due(x.heard(), 0);
        due(ask("a"), 1);
        due(x.heard(), 1L | 1L << 31 | 1L << 32);
        due(ask("h h h h h h"), 6);
        due(x.heard(), 1L << 39);
        due(ask("h h h a h h"), 6);
        due(x.heard(), 1L << 39);
        due(ask("h h h h h"), 5);
        due(x.heard(), 1L << 39);
        for (String none : texts("a h h h h a", "h h h h a", "h h h h", "h h h h h h h", "h h h h h h a")) {
            due(ask(none), (none.length() + 1) / 2);
            due(x.heard(), 0);
        }
        due(ask("h ".repeat(200)), 200);
        due(x.heard(), 0);
        // The row of one cue is made nothing by one cough.
        due(ask(""), 0);
        due(x.heard(), 1);
    }

    // ---- 18, 19: shortest, length

    private void leastCost() {
        edge("18", "SHORTEST for the first n THINGS: the least COST");
        due(x.thing(9999), 0);
        due(x.shortest(1), 9999);
        addThings(6, 9999);
        due(x.shortest(4), 4 * 9999);
        due(x.shortest(5), (3 + 2 * 2) * 9999);
        due(x.shortest(7), (3 + 4 * 2) * 9999);
        due(x.thing(1), 7);
        due(x.shortest(7), (3 + 4 * 2) * 9999);
    }

    private void noShortest() {
        edge("18", "NONE: there are no such ROWS");
        addThings(7, 3);
        for (int k = 0; k < 4; k++) {
            due(x.first(k, false), 1);
        }
        for (int n = 1; n <= 7; n++) {
            due(x.shortest(n), NONE);
        }
        // Cue 0 alone, itself behind it: one row, not two.
        due(x.first(0, true), 1);
        for (int k = 1; k < 4; k++) {
            due(x.may(k, 0, false), 1);
        }
        due(x.shortest(1), 3);
        due(x.shortest(2), NONE);
        // One more behind each: 01, 001, 0001, 00001 and 00000 are five, with nothing behind 1.
        due(x.may(1, 0, true), 1);
        for (int k = 0; k < 4; k++) {
            due(x.may(k, 1, false), 1);
        }
        due(x.shortest(5), 3 * (2 + 3 + 4 + 5 + 5));
        due(x.shortest(6), NONE);
        due(x.shortest(7), NONE);
    }

    private void noSuchN() {
        edge("18", "RANGE: n 1 .. 7, not so many THINGS");
        for (int n : ints(1, 7, 0)) {
            due(x.shortest(n), RANGE);
        }
        addThings(6, 1);
        due(x.shortest(6), 3 + 2 * 3);
        due(x.shortest(7), RANGE);
        due(x.thing(1), 6);
        due(x.shortest(7), 3 + 2 * 4);
        addThings(33, 1);
        for (int n : ints(0, -1, 8, 40, LOW, HIGH)) {
            due(x.shortest(n), RANGE);
        }
        // Ahead of NONE; and length() is as it was.
        for (int k = 0; k < 4; k++) {
            due(x.first(k, false), 1);
        }
        due(x.shortest(8), RANGE);
        due(x.length(6), 2);
    }

    private void lengthsOfLatest() {
        edge("19", "How long the ROW of THING t is by the latest shortest() that told a COST");
        addThings(7, 1);
        due(x.shortest(7), 11);
        for (int t = 0; t < 7; t++) {
            due(x.length(t), t < 3 ? 1 : 2);
        }
        due(x.shortest(8), RANGE);
        due(x.shortest(0), RANGE);
        due(x.length(6), 2);
        for (int k = 0; k < 4; k++) {
            due(x.first(k, false), 1);
        }
        due(x.shortest(2), NONE);
        due(x.length(6), 2);
        due(x.first(0, true), 1);
        due(x.length(0), 1);
        due(x.shortest(2), 4);
        due(x.length(0), 2);
        due(x.length(1), 2);
        due(x.length(2), NONE);
    }

    private void noLength() {
        edge("19", "NONE when there is none such");
        due(x.length(0), NONE);
        addThings(8, 1);
        due(x.length(0), NONE);
        due(x.shortest(0), RANGE);
        due(x.length(0), NONE);
        due(x.shortest(7), 11);
        due(x.length(6), 2);
        for (int t : ints(-1, 7, 8, LOW, HIGH)) {
            due(x.length(t), NONE);
        }
        due(x.shortest(1), 1);
        due(x.length(0), 1);
        due(x.length(1), NONE);
    }
}
