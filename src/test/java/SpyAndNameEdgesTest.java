/** Boundaries that promises 20 to 30 name: nights, books that fit, a new book, names. */
public final class SpyAndNameEdgesTest extends Edges {
    public static void main(String[] args) throws Exception {
        new SpyAndNameEdgesTest().runAll();
    }

    // ---- 20: night

    private void nightsTold() {
        edge("20", "CUES (a byte each, its number and 65), a blank, DIGITS (and 48), as many: its number");
        due(tell("A 0"), 0);
        dueEmptyTape();
        due(x.fits(), 5040);
        due(tell("H 7"), 1);
        due(x.fits(), 720);
        due(tell("BCDEFG 123456"), 2);
        due(x.fits(), 1);
        // What can't be true together is a night, too.
        due(tell("AAAAAA 012345"), 3);
        due(tell("ABCDEF 000000"), 4);
        due(x.count(1), 5);
        due(x.fits(), 0);
    }

    private void noNight() {
        edge("20", "NONE: it is none");
        due(tell("A 5"), 0);
        for (String none : texts("", " ", "A", "A ", " 0", "0", "A0", "A 01", "AB 0", "AB01", "AB  01", "AB 0 ", " AB 01",
            "@ 0", "I 0", "a 0", "A /", "A 8", "A\n0", "A\0000", "0 A", "A A", "ABCDEFG 0123456", "ABCDEF 0123456",
            "ABCDEFG 012345", (char) 193 + " 0", "A " + (char) 176)) {
            due(tell(none), NONE);
            dueEmptyTape();
        }
        due(tell("A".repeat(199) + " " + "5".repeat(199)), NONE);
        due(x.count(1), 1);
        due(x.fits(), 5040);
        due(x.sure(0), 5);
    }

    private void fullOfNights() {
        edge("20", "FULL");
        for (int n = 0; n < 40; n++) {
            due(tell("A 0"), n);
        }
        due(tell("B 1"), FULL);
        dueEmptyTape();
        due(tell("ABCDEF 012345"), FULL);
        due(x.count(1), 40);
        // Nothing of them is known; NONE comes ahead of FULL.
        due(x.fits(), 5040);
        due(x.sure(1), NONE);
        due(tell("B 8"), NONE);
        due(tell(""), NONE);
    }

    // ---- 21, 22, 23: misheard, fits, sure

    private void misheardAtMost() {
        edge("21", "So many are MISHEARD at most: how many it was");
        due(x.misheard(0), 0);
        due(x.misheard(6), 0);
        due(x.misheard(6), 6);
        due(x.misheard(1), 6);
        due(x.count(4), 1);
        due(x.misheard(0), 1);
    }

    private void noSuchMisheard() {
        edge("21", "RANGE");
        due(x.misheard(3), 0);
        for (int n : ints(-1, 7, LOW, HIGH)) {
            due(x.misheard(n), RANGE);
            due(x.count(4), 3);
        }
        due(x.misheard(6), 3);
    }

    private void booksThatFit() {
        edge("22", "How many BOOKS FIT");
        due(x.fits(), 40320);
        due(x.misheard(6), 0);
        due(x.fits(), 40320);
        // Six wrong ones are borne, seven aren't.
        due(tell("AAAAAA 000000"), 0);
        due(x.fits(), 40320);
        due(tell("A 0"), 1);
        due(x.fits(), 5040);
        due(x.misheard(0), 6);
        due(x.fits(), 5040);
        due(tell("BCDEFG 123456"), 2);
        due(x.fits(), 1);
        due(tell("H 6"), 3);
        due(x.fits(), 0);
        due(x.misheard(1), 0);
        // H as 7 bears one wrong; so does G and H as 7 and 6, where G was told as 6.
        due(x.fits(), 2);
    }

    private void sureOfDigits() {
        edge("23", "SURE of a CUE: the DIGIT");
        due(tell("A 7"), 0);
        due(x.sure(0), 7);
        due(tell("H 0"), 1);
        due(x.sure(7), 0);
        due(tell("BCDEF 12345"), 2);
        due(x.sure(5), 5);
        // Seven are told: the eighth is what is left.
        due(x.sure(6), 6);
    }

    private void notSure() {
        edge("23", "NONE: no one DIGIT (or no BOOK fits)");
        for (int k = 0; k < 8; k++) {
            due(x.sure(k), NONE);
        }
        due(tell("ABCDEF 012345"), 0);
        // Two are left for two cues.
        due(x.sure(6), NONE);
        due(x.sure(7), NONE);
        due(x.sure(5), 5);
        due(x.misheard(1), 0);
        due(x.sure(5), NONE);
        due(x.misheard(0), 1);
        due(tell("A 1"), 1);
        due(x.fits(), 0);
        for (int k = 0; k < 8; k++) {
            due(x.sure(k), NONE);
        }
    }

    private void sureOfNoCue() {
        edge("23", "RANGE");
        due(tell("ABCDEF 012345"), 0);
        for (int k : ints(-1, 8, LOW, HIGH)) {
            due(x.sure(k), RANGE);
        }
        // Ahead of NONE: no book fits.
        due(tell("A 1"), 1);
        due(x.sure(8), RANGE);
        due(x.sure(-1), RANGE);
    }

    // ---- 24: renew

    private void nothingToRenew() {
        edge("24", "A NEW BOOK is found and taken: how many CUES have another DIGIT");
        due(x.renew(), 0);
        dueBook("01234567");
        // They are sure of what isn't so: nothing is to be changed.
        due(tell("A 1"), 0);
        due(x.renew(), 0);
        dueBook("01234567");
        // No book fits: they are sure of nothing.
        due(tell("A 2"), 1);
        due(x.renew(), 0);
        dueBook("01234567");
    }

    private void renewedToNothing() {
        edge("24", "A NEW BOOK is found and taken: how many CUES have another DIGIT");
        // The last cue has the digit 0, and keeps it as long as nobody is sure of it.
        due(take("12345670"), 1);
        due(x.renew(), 0);
        dueBook("12345670");
        due(tell("A 0"), 0);
        due(x.renew(), 0);
        dueBook("12345670");
        due(tell("B 2"), 1);
        due(x.renew(), 2);
        dueBook("10345672");
        due(take("76543210"), 1);
        due(x.renew(), 0);
        dueBook("76543210");
    }

    private void leastRenewed() {
        edge("24", "A NEW BOOK is found and taken: how many CUES have another DIGIT");
        // One is sure: the cue changes with the one that makes the least row.
        due(tell("H 7"), 0);
        due(x.renew(), 2);
        dueBook("01234576");
        due(x.renew(), 0);
        dueBook("01234576");
        due(x.count(1), 1);
    }

    private void allRenewed() {
        edge("24", "A NEW BOOK is found and taken: how many CUES have another DIGIT");
        due(take("76543210"), 1);
        due(tell("ABCDEF 765432"), 0);
        due(tell("G 1"), 1);
        due(x.renew(), 8);
        dueBook("01234567");
        // Again: the book is good as it is.
        due(x.renew(), 0);
        dueBook("01234567");
    }

    // ---- 25, 26, 27: spell, spelled, read

    private void namesSpelled() {
        edge("25", "THE TAPE (read, and empty then) is a NAME: how many CUES it is SPELLED with");
        put("a");
        due(x.spell(), 2);
        dueEmptyTape();
        put("z".repeat(40));
        due(x.spell(), 80);
        dueEmptyTape();
        put("az");
        due(x.spell(), 4);
        int[] cues = {0, 0, 3, 1};
        for (int i = 0; i < 4; i++) {
            due(x.spelled(i), cues[i]);
        }
    }

    private void noNameToSpell() {
        edge("25", "NONE: it is none");
        put("b");
        due(x.spell(), 2);
        for (String none : texts("", "a".repeat(41), "a".repeat(400), "`", "{", "A", "Z", "a b", "a\n", "a1", "\0",
            "" + (char) 225)) {
            put(none);
            due(x.spell(), NONE);
            dueEmptyTape();
        }
        due(x.spelled(0), 0);
        due(x.spelled(1), 1);
        due(x.spelled(2), NONE);
    }

    private void cuesSpelled() {
        edge("26", "The i-th CUE of the latest spell() that told a number");
        put("h".repeat(39) + "y");
        due(x.spell(), 80);
        due(x.spelled(0), 0);
        due(x.spelled(1), 7);
        due(x.spelled(77), 7);
        due(x.spelled(78), 3);
        due(x.spelled(79), 0);
        put("H");
        due(x.spell(), NONE);
        due(x.spelled(79), 0);
        // It stays with another book, and by that book the next one is spelled.
        due(take("10234567"), 1);
        due(x.spelled(0), 0);
        put("h");
        due(x.spell(), 2);
        due(x.spelled(0), 1);
        due(x.spelled(1), 7);
    }

    private void noCueSpelled() {
        edge("26", "NONE");
        due(x.spelled(0), NONE);
        put("");
        due(x.spell(), NONE);
        due(x.spelled(0), NONE);
        put("z".repeat(40));
        due(x.spell(), 80);
        for (int i : ints(-1, 80, 81, LOW, HIGH)) {
            due(x.spelled(i), NONE);
        }
        put("a");
        due(x.spell(), 2);
        due(x.spelled(1), 0);
        due(x.spelled(2), NONE);
        due(x.spelled(79), NONE);
    }

    private void lettersRead() {
        edge("27", "The letter (a byte) that the two CUES from i on of the latest ask() that told a number would spell");
        nameAllCues();
        due(ask("a a"), 2);
        due(x.read(0), 'a');
        due(ask("d b"), 2);
        due(x.read(0), 'z');
        due(ask("\t"), NONE);
        due(x.read(0), 'z');
        due(ask("a ".repeat(199) + "h"), 200);
        due(x.read(0), 'a');
        due(x.read(197), 'a');
        due(x.read(198), 'h');
        due(x.read(199), NONE);
        // By the book now.
        due(take("10234567"), 1);
        due(x.read(0), 'j');
        due(x.read(198), 'p');
    }

    private void noLetterRead() {
        edge("27", "NONE: there are no two, or no letter");
        nameAllCues();
        due(x.read(0), NONE);
        due(ask(""), 0);
        due(x.read(0), NONE);
        due(x.read(-1), NONE);
        due(ask("a"), 1);
        due(x.read(0), NONE);
        due(ask("d b d c h h a"), 7);
        due(x.read(0), 'z');
        due(x.read(1), 'l');
        // 26 is the first number that is no letter, 63 the last.
        due(x.read(2), NONE);
        due(x.read(4), NONE);
        due(x.read(5), NONE);
        due(ask("d b d c"), 4);
        for (int i : ints(-1, 3, 4, LOW, HIGH)) {
            due(x.read(i), NONE);
        }
    }

    // ---- 28, 29, 30: list, coughs, nearest

    private int list(String name) {
        put(name);
        return x.list();
    }

    private void namesListed() {
        edge("28", "THE TAPE (read, and empty then) is a LISTED name: its number");
        due(list("a"), 0);
        dueEmptyTape();
        due(list("abcdefghijkz"), 1);
        // One that is listed is listed again.
        due(list("a"), 2);
        due(x.count(6), 3);
        nameAllCues();
        due(ask("a a a b a c a d a e a f a g a h b a b b b c d b"), 24);
        due(x.coughs(1), 0);
    }

    private void noNameToList() {
        edge("28", "NONE: it is none");
        for (String none : texts("", "abcdefghijklm", "`", "{", "A", "Z", "a b", "a\n", "a1", "\0", "" + (char) 225)) {
            due(list(none), NONE);
            dueEmptyTape();
        }
        due(x.count(6), 0);
        due(list("a"), 0);
    }

    private void fullOfNames() {
        edge("28", "FULL");
        nameAllCues();
        for (int i = 0; i < 20; i++) {
            due(list("zzzzzzzzzzzz"), i);
        }
        due(list("a"), FULL);
        dueEmptyTape();
        due(x.count(6), 20);
        // NONE comes ahead of FULL.
        due(list(""), NONE);
        due(list("abcdefghijklm"), NONE);
        due(ask("a a"), 2);
        due(x.coughs(19), 24);
        due(x.coughs(20), NONE);
        due(x.nearest(), 0);
    }

    private void coughsOfName() {
        edge("29", "COUGHS of LISTED name i");
        nameAllCues();
        due(list("a"), 0);
        due(list("zzzzzzzzzzzz"), 1);
        due(ask("a a"), 2);
        due(x.coughs(0), 0);
        due(ask("a"), 1);
        due(x.coughs(0), 1);
        due(ask(""), 0);
        due(x.coughs(0), 2);
        due(x.coughs(1), 24);
        due(ask("b b"), 2);
        due(x.coughs(0), 2);
        due(ask("d b ".repeat(12)), 24);
        due(x.coughs(1), 0);
        due(ask("h ".repeat(24)), 24);
        due(x.coughs(1), 24);
        due(ask("\t"), NONE);
        due(x.coughs(1), 24);
    }

    private void noCoughs() {
        edge("29", "NONE: none, no such name, or nothing was asked");
        nameAllCues();
        due(list("a"), 0);
        due(list("zzzzzzzzzzzz"), 1);
        due(x.coughs(0), NONE);
        due(ask("\t"), NONE);
        due(x.coughs(0), NONE);
        due(ask("a a"), 2);
        due(x.coughs(0), 0);
        due(ask("a a a"), 3);
        due(x.coughs(0), NONE);
        due(ask("d b ".repeat(12) + "d"), 25);
        due(x.coughs(1), NONE);
        due(ask("d ".repeat(200)), 200);
        due(x.coughs(1), NONE);
        due(ask("a a"), 2);
        for (int i : ints(-1, 2, 20, LOW, HIGH)) {
            due(x.coughs(i), NONE);
        }
    }

    private void nearestOfAlike() {
        edge("30", "The NEAREST name");
        nameAllCues();
        for (String name : texts("c", "b", "a", "aa", "a", "b")) {
            put(name);
            x.list();
            called(1);
        }
        due(ask("a a"), 2);
        due(x.nearest(), 2);
        due(ask("a b"), 2);
        due(x.nearest(), 1);
        due(ask("a"), 1);
        // One cough of each of them, two of aa: the least number.
        due(x.nearest(), 0);
        due(ask("a a a"), 3);
        due(x.nearest(), 3);
        due(ask("\t"), NONE);
        due(x.nearest(), 3);
    }

    private void nothingNear() {
        edge("30", "NONE");
        nameAllCues();
        due(x.nearest(), NONE);
        due(ask("a a"), 2);
        due(x.nearest(), NONE);
        due(list("z"), 0);
        due(x.nearest(), 0);
        due(ask("d b a"), 3);
        due(x.nearest(), NONE);
        StagePair y = begin("promise 30 (nothing asked)");
        due(list("a"), 0);
        due(y.nearest(), NONE);
    }
}
