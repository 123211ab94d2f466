/** Boundaries that promises 37 to 46 name: odds, two kinds, what is given away, the fewest rows. */
public final class OddsEdgesTest extends Edges {
    public static void main(String[] args) throws Exception {
        new OddsEdgesTest().runAll();
    }

    // ---- 37, 38: lost, mistaken

    private void lostWas() {
        edge("37", "A CUE is LOST with so many hundredths: what it was");
        for (int k = 0; k < 8; k++) {
            due(x.lost(k, 30), 0);
            due(x.lost(k, k), 30);
        }
        for (int k = 0; k < 8; k++) {
            due(x.lost(k, 0), k);
            due(x.lost(k, 0), 0);
        }
    }

    private void noSuchLoss() {
        edge("37", "RANGE");
        due(x.lost(0, 7), 0);
        for (int bad : ints(-1, LOW, HIGH)) {
            due(x.lost(bad, 7), RANGE);
            due(x.lost(0, bad), RANGE);
            due(x.lost(bad, bad), RANGE);
        }
        due(x.lost(8, 7), RANGE);
        due(x.lost(0, 31), RANGE);
        due(x.lost(0, 100), RANGE);
        due(x.lost(0, 30), 7);
    }

    private void mistakenWas() {
        edge("38", "A CUE is heard as another one (unlike) with so many hundredths: what it was");
        for (int k = 0; k < 8; k++) {
            due(x.mistaken(k, 7 - k, 5), 0);
            due(x.mistaken(k, 7 - k, k % 5), 5);
        }
        for (int k = 0; k < 8; k++) {
            due(x.mistaken(k, 7 - k, 0), k % 5);
        }
        // It may be all seven others, five hundredths each.
        for (int as = 0; as < 7; as++) {
            due(x.mistaken(7, as, 5), 0);
        }
        due(x.lost(7, 30), 0);
    }

    private void noSuchMistake() {
        edge("38", "RANGE");
        due(x.mistaken(0, 1, 3), 0);
        for (int bad : ints(-1, LOW, HIGH)) {
            due(x.mistaken(bad, 1, 3), RANGE);
            due(x.mistaken(0, bad, 3), RANGE);
            due(x.mistaken(0, 1, bad), RANGE);
        }
        due(x.mistaken(8, 1, 3), RANGE);
        due(x.mistaken(0, 8, 3), RANGE);
        due(x.mistaken(0, 1, 6), RANGE);
        for (int k = 0; k < 8; k++) {
            due(x.mistaken(k, k, 0), RANGE);
            due(x.mistaken(k, k, 5), RANGE);
        }
        due(x.mistaken(0, 1, 5), 3);
        due(x.mistaken(1, 0, 5), 0);
    }

    // ---- 39: chance

    private void chances() {
        edge("39", "CHANCE of THING t's ROW to be heard as the CUES of the latest ask(): above, over 100 to the power of how many CUES its ROW has");
        nameAllCues();
        haveThings(texts("A", "BBBBBB"), 1, 9999);
        due(ask("a"), 1);
        due(x.chance(0), 100);
        due(ask("b b b b b b"), 6);
        due(x.chance(1), 1000000000000L);
        due(ask("b b b b b"), 5);
        due(x.chance(1), 0);
        due(x.lost(1, 30), 0);
        due(x.chance(1), 6 * 30L * 70 * 70 * 70 * 70 * 70);
        due(ask(""), 0);
        due(x.chance(1), 30L * 30 * 30 * 30 * 30 * 30);
        due(x.chance(0), 0);
        due(ask("b b b b b b b"), 7);
        due(x.chance(1), 0);
        due(ask("b ".repeat(200)), 200);
        due(x.chance(1), 0);
        // The least that is kept: 35 of 100.
        for (int as = 0; as < 8; as++) {
            due(x.mistaken(1, as, 5), as == 1 ? RANGE : 0);
        }
        due(ask("b b b b b b"), 6);
        due(x.chance(1), 35L * 35 * 35 * 35 * 35 * 35);
        due(ask("a c d e f h"), 6);
        due(x.chance(1), 5L * 5 * 5 * 5 * 5 * 5);
    }

    private void noChance() {
        edge("39", "0 without a ROW, a THING, an ask()");
        nameAllCues();
        due(x.chance(0), 0);
        haveThings(texts("A", ""), 1, 1);
        due(x.chance(0), 0);
        due(ask("\t"), NONE);
        due(x.chance(0), 0);
        due(ask("a"), 1);
        due(x.chance(0), 100);
        due(x.chance(1), 0);
        for (int t : ints(-1, 2, 40, LOW, HIGH)) {
            due(x.chance(t), 0);
        }
        // No row, no cues: none is heard as the other.
        due(ask(""), 0);
        due(x.chance(1), 0);
    }

    private void chanceBehindTheFortieth() {
        edge("39", "0 without a ROW, a THING, an ask()");
        nameAllCues();
        addThings(40, 1);
        due(giveRow(39, "A"), 1);
        due(ask("a"), 1);
        due(x.chance(39), 100);
        for (int t : ints(-1, 38, 40, 41, LOW, HIGH)) {
            due(x.chance(t), 0);
        }
    }

    // ---- 40, 41: likeliest, share

    private void likeliestOfAlike() {
        edge("40", "The LIKELIEST for these");
        nameAllCues();
        haveThings(texts("BA", "CA", "A"), 100, 100, 10);
        due(ask("a"), 1);
        due(x.likeliest(), 2);
        due(x.lost(2, 10), 0);
        // 100 * 10 of 100 is as much as 10: the least number.
        due(x.likeliest(), 1);
        due(x.lost(1, 10), 0);
        due(x.likeliest(), 0);
        due(x.lost(1, 9), 10);
        due(x.likeliest(), 1);
        due(x.lost(2, 9), 10);
        due(x.likeliest(), 2);
        due(ask("\t"), NONE);
        due(x.likeliest(), 2);
    }

    private void noneLikely() {
        edge("40", "NONE");
        due(x.likeliest(), NONE);
        nameAllCues();
        due(ask(""), 0);
        due(x.likeliest(), NONE);
        haveThings(texts("", "AB"), 9999, 1);
        // A weight of 0 is none, and one without a row has none.
        due(x.likeliest(), NONE);
        due(ask("a"), 1);
        due(x.likeliest(), NONE);
        due(x.lost(1, 1), 0);
        due(x.likeliest(), 1);
        due(ask("a b a"), 3);
        due(x.likeliest(), NONE);
    }

    private void sharesCut() {
        edge("41", "Its SHARE, what 0: above, 1: below (above 0), cut");
        nameAllCues();
        haveThings(texts("BA", "A", ""), 9999, 9999, 1);
        due(ask("a"), 1);
        due(x.share(0), 1);
        due(x.share(1), 1);
        due(x.lost(1, 30), 0);
        due(x.share(0), 10);
        due(x.share(1), 13);
        due(x.lost(1, 25), 30);
        due(x.share(0), 4);
        due(x.share(1), 5);
        due(x.lost(1, 1), 25);
        due(x.share(0), 100);
        due(x.share(1), 101);
    }

    private void greatestShares() {
        edge("41", "Its SHARE, what 0: above, 1: below (above 0), cut");
        nameAllCues();
        haveThings(texts("AAAAAA", "BBBBBB"), 9998, 9999);
        due(x.mistaken(1, 0, 1), 0);
        due(ask("a a a a a a"), 6);
        // 9998 * 10^12 and 9999: nothing to be cut, as 9999 = 99 * 101 and 9998 = 2 * 4999.
        due(x.share(0), 9998000000000000L);
        due(x.share(1), 9998000000009999L);
    }

    private void noShare() {
        edge("41", "0 for both without one");
        due(x.share(0), 0);
        due(x.share(1), 0);
        nameAllCues();
        haveThings(texts("A"), 5);
        due(x.share(1), 0);
        due(ask("b"), 1);
        due(x.share(0), 0);
        due(x.share(1), 0);
        due(ask("a"), 1);
        due(x.share(0), 1);
        due(x.share(1), 1);
    }

    private void noSuchShare() {
        edge("41", "RANGE: no such what");
        for (int what : ints(-1, 2, LOW, HIGH)) {
            due(x.share(what), RANGE);
        }
        nameAllCues();
        haveThings(texts("A"), 5);
        due(ask("a"), 1);
        for (int what : ints(-1, 2, LOW, HIGH)) {
            due(x.share(what), RANGE);
        }
    }

    // ---- 42, 43: inTwo, kind

    private void twoKinds() {
        edge("42", "IN TWO of the first n THINGS: the least sum");
        addThings(2, 9999);
        due(x.inTwo(2), 4 * 9999);
        addThings(5, 9999);
        due(x.inTwo(7), 14 * 9999);
        due(x.thing(1), 7);
        due(x.inTwo(7), 14 * 9999);
        // One first cue: rows of 1; or of 2 2; 2 2 2; 2 2 2 2 for each kind.
        for (int k = 1; k < 4; k++) {
            due(x.first(k, false), 1);
        }
        due(x.inTwo(2), 4 * 9999);
        due(x.inTwo(3), (2 + 3 + 3) * 9999);
        due(x.inTwo(7), (7 + 14) * 9999);
    }

    private void noTwoKinds() {
        edge("42", "NONE: there is none");
        addThings(7, 1);
        for (int k = 0; k < 4; k++) {
            due(x.first(k, false), 1);
        }
        due(x.inTwo(2), NONE);
        due(x.inTwo(7), NONE);
        // One row alone for each kind: two things can be parted, not three.
        due(x.first(3, true), 1);
        for (int k = 0; k < 4; k++) {
            due(x.may(k, 3, false), 1);
        }
        due(x.inTwo(2), 4);
        due(x.inTwo(3), NONE);
        due(x.shortest(2), NONE);
        due(x.inTwo(7), NONE);
    }

    private void noSuchParting() {
        edge("42", "RANGE");
        due(x.inTwo(2), RANGE);
        due(x.inTwo(0), RANGE);
        due(x.thing(1), 0);
        due(x.inTwo(1), RANGE);
        due(x.inTwo(2), RANGE);
        due(x.thing(1), 1);
        due(x.inTwo(2), 4);
        due(x.inTwo(3), RANGE);
        addThings(38, 1);
        due(x.inTwo(7), 14);
        for (int n : ints(1, 0, -1, 8, 40, LOW, HIGH)) {
            due(x.inTwo(n), RANGE);
        }
        due(x.kind(6), 1);
    }

    private void kindsOfLatest() {
        edge("43", "The KIND of THING t by the latest inTwo() that told a sum");
        addThings(7, 1);
        due(x.inTwo(7), 14);
        for (int t = 0; t < 7; t++) {
            due(x.kind(t), t < 4 ? 0 : 1);
        }
        due(x.inTwo(8), RANGE);
        due(x.inTwo(1), RANGE);
        due(x.kind(3), 0);
        due(x.kind(4), 1);
        for (int k = 0; k < 4; k++) {
            due(x.first(k, false), 1);
        }
        due(x.inTwo(2), NONE);
        due(x.kind(1), 0);
        due(x.kind(6), 1);
        due(x.first(0, true), 1);
        due(x.inTwo(2), 4);
        due(x.kind(0), 0);
        due(x.kind(1), 1);
        // shortest() and length() are apart from it.
        due(x.length(0), NONE);
    }

    private void noKind() {
        edge("43", "NONE when there is none such");
        due(x.kind(0), NONE);
        addThings(8, 1);
        due(x.kind(0), NONE);
        due(x.shortest(7), 11);
        due(x.kind(0), NONE);
        due(x.inTwo(7), 14);
        due(x.kind(6), 1);
        for (int t : ints(-1, 7, 8, LOW, HIGH)) {
            due(x.kind(t), NONE);
        }
        due(x.inTwo(2), 4);
        due(x.kind(1), 1);
        due(x.kind(2), NONE);
    }

    // ---- 44: away

    private void givenAway() {
        edge("44", "AWAY of a THING");
        haveThings(texts("A", "BCDEFG", "HHHHHH"), 1, 1, 1);
        due(x.away(0), 5040);
        due(x.away(1), 2);
        due(x.away(2), 5040);
        // Six of one telling may all be wrong.
        due(x.misheard(6), 0);
        due(x.away(2), 40320);
        due(x.misheard(5), 6);
        due(x.away(2), 5040);
        due(x.misheard(0), 5);
        due(tell("A 1"), 0);
        due(x.away(0), 0);
        due(x.away(2), 720);
        due(take("10234567"), 1);
        due(x.away(0), 5040);
        // Nothing was told by that.
        due(x.count(1), 1);
        due(x.fits(), 5040);
    }

    private void awayBeyondFortyNights() {
        edge("44", "AWAY of a THING");
        haveThings(texts("B"), 1);
        for (int n = 0; n < 40; n++) {
            due(tell("A 0"), n);
        }
        due(x.away(0), 720);
        due(x.count(1), 40);
        due(x.fits(), 5040);
    }

    private void awayWithoutRow() {
        edge("44", "NONE: it has no ROW");
        haveThings(texts("", "A"), 1, 1);
        due(x.away(0), NONE);
        due(x.away(1), 5040);
        due(giveRow(1, ""), 0);
        due(x.away(1), NONE);
    }

    private void awayOfNoThing() {
        edge("44", "RANGE");
        due(x.away(0), RANGE);
        haveThings(texts("A"), 1);
        for (int t : ints(-1, 1, 40, LOW, HIGH)) {
            due(x.away(t), RANGE);
        }
        due(x.away(0), 5040);
    }

    // ---- 45, 46: fewest, few

    private void fewestThings() {
        edge("45", "FEWEST: how many");
        haveThings(texts("ABCDEF", "GH", "GG"), 1, 1, 1);
        due(x.fewest(), 2);
        due(x.few(), 1 | 1 << 1);
        // Six are told by nights: one more is needed; with seven none.
        due(tell("ABCDEF 012345"), 0);
        due(x.fewest(), 1);
        due(x.few(), 1 << 1);
        due(tell("G 6"), 1);
        due(x.fewest(), 0);
        due(x.few(), 0);
    }

    private void notByAllOfThem() {
        edge("45", "NONE: not by all of them");
        due(x.fewest(), NONE);
        haveThings(texts("ABCDEF", "FEDCBA", ""), 1, 1, 1);
        // Six cues are one too few.
        due(x.fewest(), NONE);
        due(giveRow(2, "H"), 1);
        due(x.fewest(), 2);
        due(giveRow(2, ""), 0);
        due(x.fewest(), NONE);
        due(tell("G 0"), 0);
        due(x.fewest(), 1);
        due(x.few(), 1);
    }

    private void fewerFoundLater() {
        edge("45", "FEWEST: how many");
        haveThings(texts("AB", "CD", "EFG"), 1, 1, 1);
        due(x.fewest(), 3);
        due(x.few(), 7);
        due(x.thing(1), 3);
        due(giveRow(3, "BACD"), 4);
        due(x.fewest(), 2);
        due(x.few(), 1 << 2 | 1 << 3);
        // All eight cues by 3 and 4 are no better than seven by 2 and 3.
        due(x.thing(1), 4);
        due(giveRow(4, "GEFH"), 4);
        due(x.fewest(), 2);
        due(x.few(), 1 << 2 | 1 << 3);
        due(giveRow(2, ""), 0);
        due(x.fewest(), 2);
        due(x.few(), 1 << 3 | 1 << 4);
        due(giveRow(3, ""), 0);
        due(x.fewest(), 3);
        due(x.few(), 1 | 1 << 1 | 1 << 4);
    }

    private void fewestOfForty() {
        edge("45", "FEWEST: how many");
        addThings(40, 1);
        for (int t = 0; t < 7; t++) {
            due(giveRow(33 + t, "" + (char) ('A' + t)), 1);
        }
        due(x.fewest(), 7);
        due(x.few(), 127L << 33);
        due(giveRow(0, "H"), 1);
        due(x.fewest(), 7);
        // The highest one is left out for the lowest.
        due(x.few(), 63L << 33 | 1);
    }

    private void setOfLatest() {
        edge("46", "The set of the latest fewest() that told a number, as bits");
        haveThings(texts("ABCDEF", "GA", "GH"), 1, 1, 1);
        due(x.fewest(), 2);
        due(x.few(), 1 | 1 << 1);
        due(giveRow(0, ""), 0);
        due(x.fewest(), NONE);
        due(x.few(), 1 | 1 << 1);
        due(giveRow(0, "BCDEFA"), 6);
        due(giveRow(1, ""), 0);
        due(x.few(), 1 | 1 << 1);
        due(x.fewest(), 2);
        due(x.few(), 1 | 1 << 2);
    }

    private void noSetYet() {
        edge("46", "0 ahead of it");
        due(x.few(), 0);
        due(x.fewest(), NONE);
        due(x.few(), 0);
        haveThings(texts("ABCDEF", "G"), 1, 1);
        due(x.few(), 0);
        due(x.fewest(), 2);
        due(x.few(), 3);
    }
}
