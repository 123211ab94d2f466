/** Boundaries that the terms I to V name, and how often an object is used. */
public final class TermEdgesTest extends Edges {
    public static void main(String[] args) throws Exception {
        new TermEdgesTest().runAll();
    }

    private void callsOfAnObject() {
        edge("What it is", "An object is used for at most 512 calls after it has been made");
        due(x.thing(1), 0);
        for (int call = 2; call < 511; call++) {
            due(x.misheard(call % 7), call == 2 ? 0 : (call - 1) % 7);
        }
        // The 511th and the 512th.
        due(x.thing(9999), 1);
        due(x.about(1, 0), 9999);
    }

    private void constants() {
        edge("The constants", "`NONE = -1`");
        due(StagePair.NONE, -1);
        due(StagePair.RANGE, -2);
        due(StagePair.FULL, -3);
        due(StagePair.STATE, -4);
        // There is none; a number that can't be; no room; not as things are.
        due(x.end(1), -1);
        due(x.digit(8), -2);
        put("a".repeat(400));
        due(x.feed(0, 0, 0, 0, 0), -3);
        due(x.thing(1), 0);
        due(x.turnOf(0), -4);
    }

    // ---- I

    private void wordsOfCues() {
        edge("I", "CUES 0 .. 7, each a WORD of 1 .. 12 small letters (none at first), no two alike");
        for (int k = 0; k < 8; k++) {
            due(x.letter(k, 0), NONE);
            due(name(k, ""), NONE);
            due(name(k, "abcdefghijklm"), NONE);
            due(name(k, "abcdefghijk" + (char) ('a' + k)), 12);
            due(name((k + 1) % 8, "abcdefghijk" + (char) ('a' + k)), STATE);
            due(name(k, "" + (char) ('s' + k)), 1);
        }
        due(name(8, "x"), RANGE);
        due(name(-1, "x"), RANGE);
        due(x.count(2), 8);
    }

    private void digitsOfBooks() {
        edge("I", "A BOOK gives each CUE a DIGIT 0 .. 7, each DIGIT once (CUE k the DIGIT k at first)");
        dueBook("01234567");
        due(take("12345670"), 1);
        dueBook("12345670");
        due(take("12345678"), NONE);
        due(take("12345677"), NONE);
        due(take("/2345670"), NONE);
        dueBook("12345670");
    }

    private void allMayAtFirst() {
        edge("I", "whether the second one may stand behind the first (all may at first)");
        for (int k = 0; k < 8; k++) {
            for (int behind = 0; behind < 8; behind++) {
                due(x.may(k, behind, true), 0);
            }
        }
        due(x.may(8, 0, true), RANGE);
        due(x.may(0, 8, true), RANGE);
        // Behind 0 may 1 not stand; behind 1 may 0 still.
        due(x.thing(1), 0);
        due(x.may(1, 0, false), 1);
        due(giveRow(0, "AB"), -11);
        due(giveRow(0, "BA"), 2);
    }

    private void allAreFirst() {
        edge("I", "whether a row may begin with it (all at first)");
        for (int k = 0; k < 8; k++) {
            due(x.first(k, true), 0);
        }
        due(x.first(8, true), RANGE);
        due(x.thing(1), 0);
        due(giveRow(0, "H"), 1);
        due(x.first(7, false), 1);
        due(giveRow(0, "HA"), -11);
        due(giveRow(0, "AH"), 2);
    }

    private void bytesOfTape() {
        edge("I", "THE TAPE has at most 400 bytes");
        put("a".repeat(400));
        due(x.count(3), 400);
        due(x.feed(1, 2, 3, 4, 5), FULL);
        due(x.end(380), 380);
        due(x.feed(1, 2, 3, 4, 5), 400);
        due(x.end(381), 381);
        due(x.feed(1, 2, 3, 4, 5), FULL);
        due(x.count(3), 381);
    }

    private void lettersOfQuestions() {
        edge("I", "WORDS (letters A .. Z, a .. z, as many as there are; capitals count as small ones) with any other bytes 32 .. 126 or 10 between");
        nameCues("az", "zebra", "qa");
        due(ask("AZ aZ Az az"), 4);
        due(ask("@az[az`az{az@AZ[AZ"), 6);
        due(ask("az!az\"az0az9az~az\naz az"), 8);
        // The signs beside the letters aren't letters; letters beside a word make it another one.
        due(ask("zaz azz qaz az"), 1);
        due(ask("zebraqa"), 0);
        due(ask("zebra\nqa"), 2);
        due(ask("zebra" + (char) 31 + "qa"), NONE);
        due(ask("zebra" + (char) 127 + "qa"), NONE);
        due(ask("zebra" + (char) 9 + "qa"), NONE);
        due(ask("zebra" + (char) 11 + "qa"), NONE);
        dueAsked("BC");
    }

    private void othersLeftAside() {
        edge("I", "its CUES are those of its WORDS that are one, in their order; all others are left aside");
        nameCues("b", "a", "abcdefghijkl");
        due(ask("x a y b z a"), 3);
        dueAsked("BAB");
        due(ask("x y z"), 0);
        dueAsked("");
        // As long as a word is, and longer.
        due(ask("abcdefghijkl abcdefghijklm abcdefghijk"), 1);
        dueAsked("C");
        due(ask("aa ab"), 0);
        // A cue without a word is never heard.
        due(ask("c d e f g h"), 0);
    }

    private void naturalQuestions() {
        edge("I", "A QUESTION is NATURAL, if its first CUE is a FIRST one and each next one MAY stand behind the one ahead of it");
        nameCues("a", "b", "c");
        due(x.first(1, false), 1);
        due(x.may(2, 0, false), 1);
        String[] questions = {"", "a", "b", "c", "a b", "b a", "a c", "c a", "a b c", "a a c", "c b", "a x c", "x", "x b"};
        int[] dues = {1, 1, 0, 1, 1, 0, 0, 1, 1, 0, 1, 0, 1, 0};
        for (int i = 0; i < questions.length; i++) {
            put(questions[i]);
            x.ask();
            called(1);
            due(x.asked(0), dues[i]);
        }
    }

    // ---- II

    private void likesOfThings() {
        edge("II", "THINGS, at most 40, numbered from 0 as they come, each with a LIKE 1 .. 9999 (how often it comes)");
        for (int t = 0; t < 40; t++) {
            due(x.thing(0), RANGE);
            due(x.thing(10000), RANGE);
            due(x.thing(t % 2 == 0 ? 1 : 9999), t);
        }
        due(x.thing(1), FULL);
        for (int t = 0; t < 40; t++) {
            due(x.about(t, 0), t % 2 == 0 ? 1 : 9999);
        }
        due(x.about(40, 0), NONE);
    }

    private void cuesOfRows() {
        edge("II", "A THING's ROW: 1 .. 6 CUES (none at first)");
        due(x.thing(1), 0);
        dueRow(0, "");
        due(giveRow(0, "A"), 1);
        dueRow(0, "A");
        due(giveRow(0, "AAAAAA"), 6);
        dueRow(0, "AAAAAA");
        due(giveRow(0, "AAAAAAA"), NONE);
        dueRow(0, "AAAAAA");
    }

    private void wrongNotNatural() {
        edge("II", "1 it is not NATURAL (as above)");
        haveThings(texts("", "CC"), 1, 1);
        due(x.first(1, false), 1);
        due(x.may(3, 2, false), 1);
        due(giveRow(0, "B"), -11);
        due(giveRow(0, "CD"), -11);
        due(giveRow(0, "ABCD"), -11);
        due(giveRow(0, "CCD"), -11);
        due(giveRow(0, "AB"), 2);
        due(giveRow(0, "DC"), 2);
    }

    private void wrongBegins() {
        edge("II", "2 another THING's ROW is a begin of it, or alike");
        haveThings(texts("", "AB", "HHHHHH"), 1, 1, 1);
        due(giveRow(0, "AB"), -12);
        due(giveRow(0, "ABA"), -12);
        due(giveRow(0, "ABABAB"), -12);
        due(giveRow(0, "HHHHHH"), -12);
        due(giveRow(0, "AC"), 2);
        due(giveRow(0, "BAB"), 3);
        due(giveRow(1, ""), 0);
        due(giveRow(0, "AB"), 2);
    }

    private void wrongBegun() {
        edge("II", "3 it is a begin of another THING's");
        haveThings(texts("ABCDEF", ""), 1, 1);
        due(giveRow(1, "A"), -13);
        due(giveRow(1, "ABCDE"), -13);
        due(giveRow(1, "ABCDEF"), -12);
        due(giveRow(1, "B"), 1);
        due(giveRow(1, "ABCDEE"), 6);
        due(giveRow(0, ""), 0);
        due(giveRow(1, "A"), 1);
    }

    private void firstWrong() {
        edge("II", "What is WRONG with a ROW for a THING, the first such");
        haveThings(texts("", "AB", "CDE"), 1, 1, 1);
        due(giveRow(0, "AB"), -12);
        due(giveRow(0, "CD"), -13);
        due(x.first(0, false), 1);
        due(x.may(3, 2, false), 1);
        due(giveRow(0, "AB"), -11);
        due(giveRow(0, "CD"), -11);
        due(giveRow(0, "C"), -13);
        dueRow(0, "");
    }

    private void costWithoutRows() {
        edge("II", "the sum of LIKES times how long their ROWS are (THINGS without one aside)");
        due(x.cost(), 0);
        haveThings(texts("", "A", "BCDEFG"), 9999, 9999, 1);
        due(x.cost(), 9999 + 6);
        due(giveRow(1, ""), 0);
        due(x.cost(), 6);
        due(giveRow(2, ""), 0);
        due(x.cost(), 0);
    }

    private void shortestOfSeven() {
        edge("II", "for the first 1 .. 7 THINGS, with CUES 0 .. 3 alone and ROWS of at most 5");
        addThings(8, 1);
        due(x.shortest(0), RANGE);
        due(x.shortest(1), 1);
        due(x.shortest(7), 11);
        due(x.shortest(8), RANGE);
        // Cues 4 .. 7 are first ones, and may stand behind all others: they don't help.
        for (int k = 0; k < 4; k++) {
            due(x.first(k, false), 1);
        }
        due(x.shortest(1), NONE);
        due(x.first(3, true), 1);
        for (int k = 0; k < 4; k++) {
            due(x.may(k, 3, false), 1);
        }
        due(x.shortest(1), 1);
        due(x.shortest(2), NONE);
        // 0 or 3 behind 3, nothing behind 0: rows of 2, 3, 4, 5, 5; the sixth one would need six cues.
        due(x.may(3, 3, true), 1);
        due(x.may(0, 3, true), 1);
        for (int k = 0; k < 4; k++) {
            due(x.may(k, 0, false), 1);
        }
        due(x.shortest(4), 2 + 3 + 4 + 4);
        due(x.shortest(5), 2 + 3 + 4 + 5 + 5);
        due(x.shortest(6), NONE);
    }

    /** Behind a cue this one alone may stand. */
    private void onlyBehind(int ahead, int behind) {
        for (int k = 0; k < 4; k++) {
            due(x.may(k, ahead, k == behind), k == behind ? 0 : 1);
        }
    }

    private void sevenBehindOneCue() {
        edge("II", "for the first 1 .. 7 THINGS, with CUES 0 .. 3 alone and ROWS of at most 5");
        addThings(6, 1);
        due(x.thing(9999), 6);
        for (int k = 1; k < 4; k++) {
            due(x.first(k, false), 1);
        }
        // All seven begin with cue 0: three of two cues, four of three, the heaviest first.
        due(x.shortest(7), 2 * 9999 + 2 * 2 + 4 * 3);
        for (int t = 0; t < 7; t++) {
            due(x.length(t), t < 2 || t == 6 ? 2 : 3);
        }
        due(x.shortest(6), 2 * 3 + 3 * 3);
        // With cues that come first alone, the longer by one each; four are the most of five cues.
        for (int k = 0; k < 3; k++) {
            onlyBehind(k, k + 1);
            due(x.shortest(1), 1);
            due(x.shortest(4), 4 * (k + 3));
            due(x.shortest(5), k < 2 ? 3 * (k + 3) + 2 * (k + 4) : NONE);
            due(x.shortest(7), k < 2 ? (k + 3) * 9999 + 2 * (k + 3) + 4 * (k + 4) : NONE);
        }
    }

    private void oneRuleAgainst() {
        edge("II", "ROWS with nothing WRONG among them, with the least COST");
        addThings(4, 1);
        for (int k = 0; k < 4; k++) {
            due(x.first(k, false), 1);
        }
        for (int ahead = 0; ahead < 4; ahead++) {
            due(x.first(ahead, true), 1);
            due(x.shortest(4), 4 * 2);
            for (int k = 0; k < 4; k++) {
                // Three stand behind it: two rows of two cues, two of three.
                due(x.may(k, ahead, false), 1);
                due(x.shortest(4), 2 * 2 + 2 * 3);
                due(x.may(k, ahead, true), 1);
            }
            due(x.first(ahead, false), 1);
        }
        due(x.shortest(4), NONE);
    }

    private void otherRowsAside() {
        edge("II", "(Other THINGS' ROWS aside.)");
        haveThings(texts("A", "B", "C", "D", "HAAAAA"), 5, 5, 5, 5, 5);
        due(x.shortest(1), 5);
        due(x.shortest(4), 20);
        due(x.shortest(5), 35);
        dueRow(4, "HAAAAA");
    }

    private void leastCostAndLengths() {
        edge("II", "It tells the least COST, and how long each ROW is");
        for (int like : ints(9999, 1, 9999, 1, 9999, 1, 9999)) {
            x.thing(like);
            called(1);
        }
        // Four rows of one cue for four; of a fifth thing on, one of these has to be longer.
        due(x.shortest(4), 20000);
        due(x.shortest(5), 3 * 9999 + 2 * 2);
        for (int t = 0; t < 5; t++) {
            due(x.length(t), t % 2 == 0 ? 1 : 2);
        }
        due(x.shortest(7), 3 * 9999 + 2 * 9999 + 3 * 2);
        for (int t = 0; t < 6; t++) {
            due(x.length(t), t % 2 == 0 ? 1 : 2);
        }
        due(x.length(6), 2);
    }

    private void leastRowOfLengths() {
        edge("II", "of all that have it that with the least row of lengths (by THING)");
        // Two cues alone.
        for (int k = 2; k < 4; k++) {
            due(x.first(k, false), 1);
            for (int ahead = 0; ahead < 4; ahead++) {
                due(x.may(k, ahead, false), 1);
            }
        }
        addThings(3, 1);
        due(x.thing(2), 3);
        // 2 2 2 2 costs as much as 2 3 3 1 and 3 3 2 1.
        due(x.shortest(4), 10);
        for (int t = 0; t < 4; t++) {
            due(x.length(t), 2);
        }
        // Of alike ones the first has the shortest.
        due(x.shortest(3), 5);
        due(x.length(0), 1);
        due(x.length(1), 2);
        due(x.length(2), 2);
    }

    // ---- III

    private void oneCough() {
        edge("III", "a cough changes one CUE of a ROW to any other, or takes one away");
        nameAllCues();
        haveThings(texts("ABA"), 1);
        String[] made = {"b b a", "h b a", "a a a", "a h a", "a b b", "a b h", "b a", "a a", "a b"};
        for (String m : made) {
            due(ask(m), (m.length() + 1) / 2);
            due(x.heard(), 1);
        }
        String[] notMade = {"b a a", "a", "b", "", "a b a a", "b b b", "b b", "a a b"};
        for (String m : notMade) {
            due(ask(m), (m.length() + 1) / 2);
            due(x.heard(), 0);
        }
    }

    private void meansItsRow() {
        edge("III", "A row that is heard MEANS a THING, if it is its ROW");
        nameAllCues();
        haveThings(texts("", "A", "HABCDE"), 1, 1, 1);
        due(ask(""), 0);
        due(x.means(), NONE);
        due(ask("a"), 1);
        due(x.means(), 1);
        due(ask("h a b c d e"), 6);
        due(x.means(), 2);
        due(ask("h a b c d"), 5);
        due(x.means(), NONE);
        due(ask("h a b c d e e"), 7);
        due(x.means(), NONE);
    }

    private void heardAs() {
        edge("III", "the THINGS whose ROW it is, or whose ROW is made it by one cough");
        nameAllCues();
        haveThings(texts("A", "B", "CA", "CCC", ""), 1, 1, 1, 1, 1);
        due(ask("a"), 1);
        // Its own, B by a change, CA by one taken away.
        due(x.heard(), 1 | 2 | 4);
        due(ask("c"), 1);
        due(x.heard(), 1 | 2 | 4);
        due(ask("c c"), 2);
        due(x.heard(), 4 | 8);
        due(ask(""), 0);
        due(x.heard(), 1 | 2);
        due(ask("c c c c"), 4);
        due(x.heard(), 0);
    }

    private void mended() {
        edge("III", "2 MENDED: each row that one cough makes of its ROW is made so, or is had, by no other THING");
        haveThings(texts("ABC"), 1);
        due(x.about(0, 2), 2);
        due(x.thing(1), 1);
        due(x.about(0, 2), 2);
        // Two cues more, or three others: no cough of each meets.
        for (String far : texts("DEFGH", "DEF", "D")) {
            due(giveRow(1, far), far.length());
            due(x.about(0, 2), 2);
            due(x.about(1, 2), 2);
        }
        // ADE is two changes away: ABE and ADC are made of both.
        due(giveRow(1, "ADE"), 3);
        due(x.about(0, 2), 1);
        due(x.about(1, 2), 1);
        // DABE makes ABE by one taken away; ABC by a change.
        due(giveRow(1, "DABE"), 4);
        due(x.about(0, 2), 1);
        due(x.about(1, 2), 1);
        // AB is made of both by one taken away each: of ABC, and of DAB.
        due(giveRow(1, "DAB"), 3);
        due(x.about(0, 2), 1);
        due(x.about(1, 2), 1);
    }

    private void seen() {
        edge("III", "1 SEEN: none of these is another THING's ROW");
        haveThings(texts("A", "BA"), 1, 1);
        // BA makes A by one taken away; A makes B, which BA makes as well.
        due(x.about(0, 2), 1);
        due(x.about(1, 2), 0);
        due(giveRow(0, ""), 0);
        due(x.about(1, 2), 2);
        due(giveRow(0, "CC"), 2);
        due(x.about(0, 2), 1);
        due(x.about(1, 2), 1);
        due(giveRow(0, "BC"), 2);
        due(x.about(0, 2), 0);
        due(x.about(1, 2), 0);
    }

    private void notSafe() {
        edge("III", "0 else");
        haveThings(texts("ABCDEF", "ABCDEG"), 1, 1);
        due(x.about(0, 2), 0);
        due(x.about(1, 2), 0);
        due(giveRow(1, "HBCDEF"), 6);
        due(x.about(0, 2), 0);
        due(giveRow(1, "BCDEF"), 5);
        due(x.about(0, 2), 0);
        due(x.about(1, 2), 1);
        due(giveRow(1, "BCDEFG"), 6);
        due(x.about(0, 2), 1);
    }

    // ---- IV

    private void nightsAtMost() {
        edge("IV", "NIGHTS, at most 40: a row of 1 .. 6 CUES, and the DIGITS that were told of it, as many");
        due(tell(" "), NONE);
        due(tell("A 0"), 0);
        due(tell("ABCDEF 012345"), 1);
        due(tell("ABCDEFG 0123456"), NONE);
        due(tell("ABCDEF 01234"), NONE);
        due(tell("ABCDE 012345"), NONE);
        for (int n = 2; n < 40; n++) {
            due(tell("B 1"), n);
        }
        due(tell("G 6"), FULL);
        due(x.count(1), 40);
        due(x.fits(), 2);
    }

    private void allCuesOfAllNights() {
        edge("IV", "FIT: a BOOK fits the NIGHTS, if all CUES of all of them have the DIGITS told");
        due(x.fits(), 40320);
        due(tell("AH 07"), 0);
        due(x.fits(), 720);
        due(tell("BCDEFG 654321"), 1);
        due(x.fits(), 1);
        due(x.sure(1), 6);
        due(tell("A 0"), 2);
        due(x.fits(), 1);
        due(tell("H 6"), 3);
        due(x.fits(), 0);
    }

    private void misheardInAll() {
        edge("IV", "but for at most so many in all as were MISHEARD (0 .. 6; 0 at first)");
        due(x.count(4), 0);
        due(tell("AB 01"), 0);
        due(tell("CD 23"), 1);
        due(tell("EF 45"), 2);
        due(tell("GH 67"), 3);
        // Wrong in all nights together: books by how many cues have another digit.
        int[] dues = {1, 1, 1 + 28, 1 + 28 + 112, 1 + 28 + 112 + 630, 771 + 56 * 44, 771 + 56 * 44 + 28 * 265};
        for (int n = 0; n <= 6; n++) {
            due(x.misheard(n), Math.max(n - 1, 0));
            due(x.fits(), dues[n]);
        }
        due(x.misheard(7), RANGE);
        due(x.misheard(-1), RANGE);
        due(x.fits(), dues[6]);
    }

    private void allBooks() {
        edge("IV", "How many of the 40320 BOOKS fit");
        due(x.fits(), 40320);
        due(tell("A 0"), 0);
        due(x.fits(), 5040);
        due(tell("A 1"), 1);
        due(x.fits(), 0);
        due(x.misheard(1), 0);
        due(x.fits(), 2 * 5040);
        due(x.misheard(2), 1);
        due(x.fits(), 40320);
    }

    private void sureInAllThatFit() {
        edge("IV", "SURE of a CUE: the DIGIT that it has in all that fit");
        due(tell("AA 33"), 0);
        due(x.misheard(1), 0);
        due(x.sure(0), 3);
        due(x.misheard(2), 1);
        due(x.sure(0), NONE);
        due(x.misheard(1), 2);
        // A cue that was told wrong: sure of it all the same.
        due(tell("A 4"), 1);
        due(x.sure(0), 3);
        due(tell("A 4"), 2);
        due(x.fits(), 0);
        due(x.sure(0), NONE);
    }

    private void newBookKeepsMost() {
        edge("IV", "of all BOOKS in which no CUE of which SPIES are SURE has the DIGIT of which they are, the one that has the fewest CUES with another DIGIT than now");
        due(tell("ABC 012"), 0);
        due(x.renew(), 3);
        dueBook("12034567");
        due(tell("D 4"), 1);
        // D hasn't the digit of which they are sure; A, B and C haven't theirs.
        due(x.renew(), 0);
        due(take("01243567"), 1);
        // All four have theirs: two changes of two with one another.
        due(x.renew(), 4);
        dueBook("10423567");
    }

    private void leastNewBook() {
        edge("IV", "of these the least row of DIGITS (by CUE)");
        due(tell("D 3"), 0);
        due(x.renew(), 2);
        // D changes with E: any other change makes an earlier digit greater.
        dueBook("01243567");
        begin("term IV (the least row of digits)");
        due(tell("A 0"), 0);
        due(x.renew(), 2);
        dueBook("10234567");
    }

    // ---- V

    private void lettersByTwoDigits() {
        edge("V", "letters a .. z by two DIGITS: number of the letter (a: 0) over 8 (the whole part) and the rest");
        String name = "ahipqxyz";
        int[] cues = {0, 0, 0, 7, 1, 0, 1, 7, 2, 0, 2, 7, 3, 0, 3, 1};
        put(name);
        due(x.spell(), 16);
        for (int i = 0; i < 16; i++) {
            due(x.spelled(i), cues[i]);
        }
        nameAllCues();
        due(ask("a a a h b a b h c a c h d a d b"), 16);
        for (int i = 0; i < 8; i++) {
            due(x.read(2 * i), name.charAt(i));
        }
        due(ask("d c d h e a h h"), 8);
        for (int i = 0; i < 4; i++) {
            due(x.read(2 * i), NONE);
        }
    }

    private void namesOfForty() {
        edge("V", "a NAME of 1 .. 40 letters on THE TAPE as CUES by the BOOK");
        due(take("12345670"), 1);
        put("");
        due(x.spell(), NONE);
        put("z");
        due(x.spell(), 2);
        // Digit 3 is had by cue 2, digit 1 by cue 0.
        due(x.spelled(0), 2);
        due(x.spelled(1), 0);
        put("a".repeat(40));
        due(x.spell(), 80);
        due(x.spelled(79), 7);
        put("a".repeat(41));
        due(x.spell(), NONE);
        due(x.spelled(79), 7);
    }

    private void listedAtMost() {
        edge("V", "LISTED names, at most 20, of 1 .. 12 letters each, numbered from 0");
        for (int i = 0; i < 20; i++) {
            put("");
            due(x.list(), NONE);
            put("abcdefghijklm");
            due(x.list(), NONE);
            put(i % 2 == 0 ? "a" : "abcdefghijkl");
            due(x.list(), i);
        }
        put("a");
        due(x.list(), FULL);
        due(x.count(6), 20);
    }

    private void fewestCoughs() {
        edge("V", "by how few coughs (each changes one CUE, or takes one away) the CUES of the latest ask() could come of those by which it is SPELLED now");
        nameAllCues();
        put("bz");
        due(x.list(), 0);
        // 0 1 3 1, in cues as told.
        String[] questions = {"a b d b", "a b d a", "b d b", "a b b", "d b", "b a b", "b a", "", "h h h h", "a", "b b b b"};
        int[] dues = {0, 1, 1, 1, 2, 2, 3, 4, 4, 3, 2};
        for (int i = 0; i < questions.length; i++) {
            put(questions[i]);
            x.ask();
            called(1);
            due(x.coughs(0), dues[i]);
        }
        // As spelled now.
        due(take("10234567"), 1);
        due(ask("b a d a"), 4);
        due(x.coughs(0), 0);
    }

    private void noneIfMore() {
        edge("V", "none, if there are more than it has");
        nameAllCues();
        put("a");
        due(x.list(), 0);
        put("zzzzzzzzzzzz");
        due(x.list(), 1);
        due(ask("a a"), 2);
        due(x.coughs(0), 0);
        due(ask("a a a"), 3);
        due(x.coughs(0), NONE);
        due(ask("d b ".repeat(12)), 24);
        due(x.coughs(1), 0);
        due(ask("d b ".repeat(12) + "b"), 25);
        due(x.coughs(1), NONE);
    }

    private void nearestOfAsMany() {
        edge("V", "with the fewest COUGHS (of as many the lesser number)");
        nameAllCues();
        for (String name : texts("c", "b", "a", "a")) {
            put(name);
            x.list();
            called(1);
        }
        due(ask("a d"), 2);
        due(x.nearest(), 0);
        due(ask("a b"), 2);
        due(x.nearest(), 1);
        due(ask("a a"), 2);
        due(x.nearest(), 2);
        due(ask("h h"), 2);
        due(x.nearest(), 0);
        due(ask("a a a"), 3);
        due(x.nearest(), NONE);
    }
}
