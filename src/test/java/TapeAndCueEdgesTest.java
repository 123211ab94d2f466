/** Boundaries that promises 1 to 11 name: the tape, words, rules of standing beside, the book, questions. */
public final class TapeAndCueEdgesTest extends Edges {
    public static void main(String[] args) throws Exception {
        new TapeAndCueEdgesTest().runAll();
    }

    // ---- 1: a new object

    private void nothingAtFirst() {
        edge("1", "No WORDS, THINGS or NIGHTS");
        due(x.count(0), 0);
        due(x.count(1), 0);
        due(x.count(2), 0);
        for (int k = 0; k < 8; k++) {
            due(x.letter(k, 0), NONE);
        }
        due(x.about(0, 0), NONE);
        due(x.fits(), 40320);
        due(ask("a b c d e f g h"), 0);
        // Each first one that comes is number 0.
        due(x.thing(1), 0);
        due(tell("A 0"), 0);
    }

    private void digitsAtFirst() {
        edge("1", "CUE k has the DIGIT k");
        dueBook("01234567");
        due(x.digitOn(7, 0, 0), 7);
    }

    // ---- 2: feed

    private void bytesOfFeed() {
        edge("2", "Twenty bytes come behind THE TAPE, the highest of each int first: how many it has");
        due(x.feed(0x61626364, 0x65666768, 0x696a6b6c, 0x6d6e6f70, 0x71727374), 20);
        due(x.feed(0x75767778, 0x797a6162, 0x63646566, 0x6768696a, 0x6b6c6d6e), 40);
        due(x.count(3), 40);
        due(x.spell(), 80);
        for (int i = 0; i < 40; i++) {
            due(x.spelled(2 * i), i % 26 / 8);
            due(x.spelled(2 * i + 1), i % 26 % 8);
        }
    }

    private void anyIntIsFed() {
        edge("2", "Twenty bytes come behind THE TAPE");
        due(x.feed(LOW, HIGH, -1, 0, 1), 20);
        // Byte 128, the highest of the lowest int, is no byte of a question; none of these is.
        for (int keep = 1; keep <= 20; keep += 3) {
            x.end(0);
            due(x.feed(LOW, HIGH, -1, 0, 1), 20);
            due(x.end(keep), keep);
            due(x.ask(), NONE);
        }
        // At each of the five places, and none of these is a byte of a question or a row.
        x.end(0);
        for (int v : ints(LOW, HIGH, -1, 0)) {
            for (int at = 0; at < 5; at++) {
                int[] five = ints(0x41414141, 0x41414141, 0x41414141, 0x41414141, 0x41414141);
                five[at] = v;
                due(x.feed(five[0], five[1], five[2], five[3], five[4]), 20);
                due(x.end(4 * at + 1), 4 * at + 1);
                due(x.ask(), NONE);
            }
        }
        due(x.thing(1), 0);
        for (int v : ints(LOW, HIGH, -1, 0)) {
            due(x.feed(v, 0, 0, 0, 0), 20);
            due(x.end(1), 1);
            due(x.row(0), NONE);
        }
        // 127 of the highest int ends a row of letters; ahead of it they are one word.
        due(x.feed(0x6162637f, HIGH, HIGH, HIGH, HIGH), 20);
        due(x.end(3), 3);
        due(x.word(0), 3);
        dueWord(0, "abc");
    }

    private void fullTape() {
        edge("2", "FULL when there would be more than 400");
        for (int n = 1; n <= 20; n++) {
            due(x.feed(0x61206120, 0x61206120, 0x61206120, 0x61206120, 0x61206120), 20 * n);
        }
        due(x.feed(0, 0, 0, 0, 0), FULL);
        due(x.count(3), 400);
        due(x.feed(LOW, HIGH, LOW, HIGH, LOW), FULL);
        // No byte of the refused ones came: with 381 there would be 401.
        due(x.end(381), 381);
        due(x.feed(0, 0, 0, 0, 0), FULL);
        due(x.count(3), 381);
        due(x.end(380), 380);
        due(x.feed(0x62206220, 0x62206220, 0x62206220, 0x62206220, 0x62206220), 400);
        due(x.ask(), 0);
        due(x.feed(0, 0, 0, 0, 0), 20);
    }

    private void fullTapeKeepsItsBytes() {
        edge("2", "FULL when there would be more than 400");
        nameCues("a");
        put("a ".repeat(200));
        due(x.feed(0, 0, 0, 0, 0), FULL);
        due(x.ask(), 200);
    }

    // ---- 3: end

    private void cutTape() {
        edge("3", "THE TAPE has its first n bytes alone: n");
        due(x.end(0), 0);
        due(x.feed(0x61626364, 0x65666768, 0x696a6b6c, 0x6d6e6f70, 0x71727374), 20);
        due(x.end(20), 20);
        due(x.end(19), 19);
        due(x.end(3), 3);
        due(x.feed(0x78797a78, 0, 0, 0, 0), 23);
        due(x.end(5), 5);
        due(x.word(0), 5);
        dueWord(0, "abcxy");
        due(x.end(0), 0);
    }

    private void cutWholeTape() {
        edge("3", "THE TAPE has its first n bytes alone: n");
        put("a".repeat(400));
        due(x.end(400), 400);
        due(x.end(401), NONE);
        due(x.end(399), 399);
        due(x.end(400), NONE);
        due(x.end(1), 1);
        due(x.end(0), 0);
        dueEmptyTape();
    }

    /** The tape is this text, of which the first bytes alone are kept: the others stand behind its end. */
    private void putAndCut(String text, int kept) {
        put(text);
        due(x.end(kept), kept);
    }

    private void bytesBehindTheEnd() {
        edge("3", "THE TAPE has its first n bytes alone: n");
        putAndCut("ab", 1);
        due(x.word(0), 1);
        dueWord(0, "a");
        putAndCut("10234567", 7);
        due(x.book(), NONE);
        due(x.thing(1), 0);
        putAndCut("AB", 1);
        due(x.row(0), 1);
        putAndCut("A", 0);
        due(x.row(0), 0);
        for (int kept : ints(4, 3, 2, 1, 0)) {
            putAndCut("AB 01", kept);
            due(x.night(), NONE);
        }
        putAndCut("ab", 1);
        due(x.ask(), 1);
        putAndCut("a\t", 1);
        due(x.ask(), 1);
        putAndCut("ab", 1);
        due(x.spell(), 2);
        putAndCut("ab", 0);
        due(x.spell(), NONE);
        putAndCut("a1", 1);
        due(x.list(), 0);
        putAndCut("10234567", 7);
        due(x.bookOn(0, 0), NONE);
        putAndCut("01234567", 8);
        due(x.bookOn(0, 0), 1);
    }

    private void mannersBehindTheEnd() {
        edge("3", "THE TAPE has its first n bytes alone: n");
        nameCues("a");
        putAndCut("A=a;", 3);
        due(x.manners(), NONE);
        due(x.fault(1), 3);
        putAndCut("A=ab;", 3);
        due(x.manners(), NONE);
        due(x.fault(1), 3);
        putAndCut("A=a;?", 4);
        due(x.manners(), 1);
        putAndCut("ab", 1);
        due(x.mannerly(), 1);
        putAndCut("a a", 2);
        due(x.mannerly(), 1);
        putAndCut("AA", 1);
        due(x.make(), 1);
        putAndCut("A", 0);
        due(x.make(), FULL);
    }

    private void notSoManyBytes() {
        edge("3", "NONE when it has not so many, or n is below 0");
        due(x.end(1), NONE);
        due(x.end(-1), NONE);
        due(x.feed(0x61626364, 0x65666768, 0x696a6b6c, 0x6d6e6f70, 0x71727374), 20);
        for (int n : ints(21, HIGH, -1, -20, LOW)) {
            due(x.end(n), NONE);
            due(x.count(3), 20);
        }
        // The tape is as it was.
        due(x.end(2), 2);
        due(x.word(0), 2);
        dueWord(0, "ab");
    }

    // ---- 4: word

    private void lettersOfWord() {
        edge("4", "THE TAPE (read, and empty then) is the WORD of a CUE: its letters");
        due(name(0, "a"), 1);
        dueEmptyTape();
        due(name(7, "abcdefghijkl"), 12);
        dueEmptyTape();
        due(name(3, "z"), 1);
        due(name(3, "zz"), 2);
        dueWord(0, "a");
        dueWord(7, "abcdefghijkl");
        dueWord(3, "zz");
        due(name(3, "y"), 1);
        dueWord(3, "y");
        due(x.count(2), 3);
    }

    private void wordOfNoCue() {
        edge("4", "RANGE: no such CUE");
        due(name(0, "first"), 5);
        for (int k : ints(-1, 8, LOW, HIGH)) {
            due(name(k, "other"), RANGE);
            dueEmptyTape();
            // Ahead of NONE, and of STATE.
            due(name(k, ""), RANGE);
            due(name(k, "first"), RANGE);
        }
        due(x.count(2), 1);
        due(name(7, "other"), 5);
    }

    private void noWord() {
        edge("4", "NONE: it is none");
        due(name(1, "b"), 1);
        for (String none : texts("", "abcdefghijklm", "`", "{", "A", "Z", "aB", " a", "a ", "a\n", "a-b", "a1", "\0",
            "a\0", "" + (char) 225, "b" + (char) 255)) {
            due(name(1, none), NONE);
            dueEmptyTape();
        }
        due(name(1, "a".repeat(400)), NONE);
        // The cue keeps its word; one without a word gets none.
        dueWord(1, "b");
        due(name(2, ""), NONE);
        due(x.count(2), 1);
        // NONE without a byte, though another cue has no word either.
        due(x.word(3), NONE);
    }

    private void wordOfAnother() {
        edge("4", "STATE: another CUE has it");
        due(name(0, "abcdefghijkl"), 12);
        due(name(7, "now"), 3);
        due(name(1, "so"), 2);
        due(name(1, "abcdefghijkl"), STATE);
        dueEmptyTape();
        due(name(1, "now"), STATE);
        due(name(6, "now"), STATE);
        dueWord(1, "so");
        due(x.letter(6, 0), NONE);
        // Its own one is taken again; one letter more, less or other is another word.
        due(name(7, "now"), 3);
        due(name(1, "no"), 2);
        due(name(2, "nowx"), 4);
        due(name(3, "not"), 3);
        due(name(4, "abcdefghijk"), 11);
        due(name(5, "abcdefghijkm"), 12);
        // A word that a cue had is free, when it has another one.
        due(name(7, "then"), 4);
        due(name(6, "now"), 3);
        due(name(7, "now"), STATE);
    }

    // ---- 5: letter

    private void letters() {
        edge("5", "Byte i of the WORD of a CUE");
        nameCues("q", "abcdefghijkl");
        due(x.letter(0, 0), 'q');
        due(x.letter(1, 0), 'a');
        due(x.letter(1, 11), 'l');
        due(name(7, "az"), 2);
        due(x.letter(7, 0), 'a');
        due(x.letter(7, 1), 'z');
    }

    private void noLetter() {
        edge("5", "NONE when there is none such");
        due(x.letter(0, 0), NONE);
        nameCues("q", "abcdefghijkl");
        due(x.letter(0, 1), NONE);
        due(x.letter(1, 12), NONE);
        due(x.letter(2, 0), NONE);
        for (int bad : ints(-1, LOW, HIGH)) {
            due(x.letter(0, bad), NONE);
            due(x.letter(bad, 0), NONE);
            due(x.letter(bad, bad), NONE);
        }
        due(x.letter(8, 0), NONE);
        // A shorter word leaves nothing of the longer one.
        due(name(1, "x"), 1);
        due(x.letter(1, 1), NONE);
    }

    // ---- 6, 7: may, first

    private void standBehind() {
        edge("6", "CUE k may stand behind another one (or itself), or not");
        nameAllCues();
        due(ask("a h"), 2);
        due(x.may(7, 0, false), 1);
        due(x.asked(0), 0);
        due(ask("h a"), 2);
        due(x.asked(0), 1);
        due(x.may(0, 7, false), 1);
        due(x.asked(0), 0);
        due(ask("h h"), 2);
        due(x.asked(0), 1);
        due(x.may(7, 7, false), 1);
        due(x.asked(0), 0);
        due(x.may(7, 7, true), 1);
        due(x.asked(0), 1);
        // A cue alone stands behind none.
        due(x.may(0, 0, false), 1);
        due(ask("a"), 1);
        due(x.asked(0), 1);
    }

    private void wasOtherwise() {
        edge("6", "1 if it was otherwise, else 0");
        for (int pair = 0; pair < 64; pair++) {
            due(x.may(pair / 8, pair % 8, true), 0);
            due(x.may(pair / 8, pair % 8, false), 1);
            due(x.may(pair / 8, pair % 8, false), 0);
        }
        for (int pair = 0; pair < 64; pair++) {
            due(x.may(pair / 8, pair % 8, true), 1);
            due(x.may(pair / 8, pair % 8, true), 0);
        }
    }

    private void mayOfNoCue() {
        edge("6", "RANGE");
        nameAllCues();
        for (int bad : ints(-1, 8, LOW, HIGH)) {
            for (int k : ints(0, 7)) {
                due(x.may(bad, k, false), RANGE);
                due(x.may(k, bad, false), RANGE);
                due(x.may(k, bad, true), RANGE);
            }
            due(x.may(bad, bad, false), RANGE);
        }
        // All still may.
        for (int k = 0; k < 8; k++) {
            for (int j = 0; j < 8; j++) {
                due(x.may(k, j, true), 0);
            }
            due(x.first(k, true), 0);
        }
    }

    private void beFirst() {
        edge("7", "A CUE is a FIRST one, or not");
        nameAllCues();
        due(ask("h a"), 2);
        due(x.first(7, false), 1);
        due(x.asked(0), 0);
        due(ask("a h"), 2);
        due(x.asked(0), 1);
        due(x.first(0, false), 1);
        due(x.asked(0), 0);
        due(x.first(0, true), 1);
        due(x.asked(0), 1);
    }

    private void wasFirst() {
        edge("7", "1 if it was otherwise, else 0");
        for (int k = 0; k < 8; k++) {
            due(x.first(k, true), 0);
            due(x.first(k, false), 1);
            due(x.first(k, false), 0);
        }
        for (int k = 0; k < 8; k++) {
            due(x.first(k, true), 1);
            due(x.first(k, true), 0);
        }
    }

    private void firstOfNoCue() {
        edge("7", "RANGE");
        for (int bad : ints(-1, 8, LOW, HIGH)) {
            due(x.first(bad, false), RANGE);
            due(x.first(bad, true), RANGE);
        }
        for (int k = 0; k < 8; k++) {
            due(x.first(k, true), 0);
        }
    }

    // ---- 8, 9: book, digit

    private void bookOfEight() {
        edge("8", "The BOOK: eight bytes of THE TAPE (read, and empty then): the DIGIT of each CUE and 48: 1");
        due(take("76543210"), 1);
        dueEmptyTape();
        dueBook("76543210");
        due(take("01234567"), 1);
        dueBook("01234567");
        due(take("01234567"), 1);
        dueBook("01234567");
    }

    private void noBook() {
        edge("8", "NONE: it is none");
        due(take("70123456"), 1);
        for (String none : texts("", "7", "0123456", "012345670", "0123456701234567", "01234566", "00000000", "01234568",
            "/1234567", "0123456 ", "\0\1\2\3\4\5\6\7", "ABCDEFGH", "P1234567", "0123456W",
            "0123456" + (char) 183, (char) 176 + "1234567")) {
            due(take(none), NONE);
            dueEmptyTape();
        }
        dueBook("70123456");
    }

    private void digits() {
        edge("9", "The DIGIT of a CUE");
        due(x.digit(0), 0);
        due(x.digit(7), 7);
        due(take("34567012"), 1);
        dueBook("34567012");
    }

    private void digitOfNoCue() {
        edge("9", "RANGE");
        for (int k : ints(-1, 8, LOW, HIGH)) {
            due(x.digit(k), RANGE);
        }
        dueBook("01234567");
    }

    // ---- 10, 11: ask, asked

    private void cuesOfQuestion() {
        edge("10", "THE TAPE (read, and empty then) is a QUESTION: how many CUES it has");
        nameCues("a", "bc");
        due(x.ask(), 0);
        due(ask("a"), 1);
        dueEmptyTape();
        due(ask("x"), 0);
        due(ask(" "), 0);
        due(ask("BC"), 1);
        due(ask("b c"), 0);
        due(ask("abc"), 0);
        due(ask("a ".repeat(200)), 200);
        due(ask(" a".repeat(199) + " x"), 199);
        due(ask("a".repeat(400)), 0);
        due(ask(" ".repeat(399) + "a"), 1);
        // An ask() of the emptied tape is one too.
        due(x.ask(), 0);
        due(x.count(5), 0);
    }

    private void anotherByte() {
        edge("10", "NONE: another byte");
        nameCues("a");
        due(ask("a a"), 2);
        for (int bad : ints(0, 1, 9, 11, 13, 31, 127, 128, 160, 225, 255)) {
            due(ask("a" + (char) bad), NONE);
            dueEmptyTape();
            due(ask((char) bad + "a"), NONE);
            due(x.count(5), 2);
        }
        due(ask("a".repeat(399) + (char) 127), NONE);
        dueAsked("AA");
        for (int good : ints(10, 32, 33, '@', '[', '`', '{', '~')) {
            due(ask("a" + (char) good + "a"), 2);
            due(ask("a" + (char) good), 1);
        }
        for (int letter : ints('A', 'Z', 'a', 'z')) {
            due(ask("a" + (char) letter), 0);
        }
    }

    private void latestThatToldANumber() {
        edge("11", "Of the latest ask() that told a number");
        nameAllCues();
        due(ask("\t"), NONE);
        due(x.asked(0), NONE);
        due(x.asked(10), NONE);
        due(ask("c h"), 2);
        due(ask("\t"), NONE);
        dueAsked("CH");
        due(ask(""), 0);
        dueAsked("");
        due(x.asked(0), 1);
        due(ask("h"), 1);
        // Another word of a cue, and another book, leave its cues.
        due(name(7, "other"), 5);
        dueAsked("H");
    }

    private void naturalNow() {
        edge("11", "what 0: 1 if it is NATURAL by what may be now (also without CUES), else 0");
        nameCues("a", "b");
        due(ask(""), 0);
        for (int k = 0; k < 8; k++) {
            due(x.first(k, false), 1);
        }
        due(x.asked(0), 1);
        due(ask("a"), 1);
        due(x.asked(0), 0);
        due(x.first(0, true), 1);
        due(x.asked(0), 1);
        due(ask("a ".repeat(199) + "b"), 200);
        due(x.asked(0), 1);
        due(x.may(1, 0, false), 1);
        due(x.asked(0), 0);
        due(x.may(1, 0, true), 1);
        due(x.may(0, 1, false), 1);
        due(x.asked(0), 1);
    }

    private void cuesAsked() {
        edge("11", "10 + i: the i-th CUE");
        nameAllCues();
        due(ask("h a b"), 3);
        due(x.asked(10), 7);
        due(x.asked(11), 0);
        due(x.asked(12), 1);
        due(x.asked(13), NONE);
        due(x.asked(9), NONE);
        due(ask("b ".repeat(199) + "h"), 200);
        due(x.asked(208), 1);
        due(x.asked(209), 7);
        due(x.asked(210), NONE);
        due(x.asked(499), NONE);
    }

    private void digitsAsked() {
        edge("11", "500 + i: its DIGIT by the BOOK now");
        nameAllCues();
        due(ask("h a"), 2);
        due(x.asked(500), 7);
        due(x.asked(501), 0);
        due(x.asked(502), NONE);
        due(take("56701234"), 1);
        due(x.asked(500), 4);
        due(x.asked(501), 5);
        due(ask("b ".repeat(199) + "h"), 200);
        due(x.asked(698), 6);
        due(x.asked(699), 4);
        due(x.asked(700), NONE);
    }

    private void nothingSuchAsked() {
        edge("11", "NONE when there is none such");
        for (int what : ints(0, 10, 500)) {
            due(x.asked(what), NONE);
        }
        nameCues("a");
        due(ask("a"), 1);
        for (int what : ints(-1, 1, 2, 9, 11, 100, 499, 501, LOW, LOW + 9, LOW + 10, HIGH)) {
            due(x.asked(what), NONE);
        }
        due(x.asked(10), 0);
        due(x.asked(500), 0);
        due(ask(""), 0);
        due(x.asked(10), NONE);
        due(x.asked(500), NONE);
    }
}
