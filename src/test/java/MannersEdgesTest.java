/** Boundaries that promises 31 to 36 name: manners, faults, questions by them, questions made. */
public final class MannersEdgesTest extends Edges {
    /** Ten ways of one word. */
    private static final String TEN = "H=" + "x|".repeat(9) + "x;";

    public static void main(String[] args) throws Exception {
        new MannersEdgesTest().runAll();
    }

    // ---- 31: manners

    private void rulesRead() {
        edge("31", "THE TAPE (read, and empty then) is the MANNERS: how many rules");
        due(x.manners(), 0);
        due(mind("A=;"), 1);
        dueEmptyTape();
        due(mind("H=;G=;F=;E=;D=;C=;B=;A=;"), 8);
        due(mind(" \n"), 0);
        due(mind("A=x" + " ".repeat(396) + ";"), 1);
        due(x.questions(1), 1);
        // A text without a rule is one, too: nothing is mannerly any more.
        due(mind(""), 0);
        due(x.questions(1), 0);
        due(x.questions(0), 0);
    }

    private void mannersStay() {
        edge("31", "NONE with a FAULT (the MANNERS stay)");
        due(mind("A"), NONE);
        dueEmptyTape();
        due(x.questions(0), 0);
        nameCues("x");
        due(mind("A=x x|B;B=y;"), 2);
        for (String bad : texts("A", "A=z;A=z;", "B=B;", "A=[[[[[", "A=" + "z ".repeat(121) + ";", "B=;A=z;C", "A=z;?")) {
            due(mind(bad), NONE);
            dueEmptyTape();
            due(x.questions(1), 1);
            due(x.questions(2), 1);
            put("x x");
            due(x.mannerly(), 1);
            put("z");
            due(x.mannerly(), 0);
            put("");
            due(x.make(), 1);
            due(x.made(0), 'y');
        }
    }

    // ---- 32: fault

    private void kindsOfFaults() {
        edge("32", "what 0: its FAULT's KIND, 0 without (and ahead of any)");
        due(x.fault(0), 0);
        String[] texts = {"A=;", ";", "A=;A", "A=A", "A=[[[[[", "A=x;", "B=;B", ""};
        int[] kinds = {0, 1, 2, 3, 4, 0, 2, 0};
        for (int i = 0; i < texts.length; i++) {
            due(mind(texts[i]), kinds[i] == 0 ? Math.min(texts[i].length(), 1) : NONE);
            due(x.fault(0), kinds[i]);
        }
    }

    private void placesOfFaults() {
        edge("32", "1: its PLACE (NONE)");
        due(x.fault(1), NONE);
        due(mind(";"), NONE);
        due(x.fault(1), 0);
        due(mind("A=x"), NONE);
        due(x.fault(1), 3);
        due(mind("A=x;"), 1);
        due(x.fault(1), NONE);
        due(mind(" ".repeat(399) + ";"), NONE);
        due(x.fault(1), 399);
        due(mind("A=" + " ".repeat(398)), NONE);
        due(x.fault(1), 400);
        due(mind(""), 0);
        due(x.fault(1), NONE);
    }

    private void faultOfAnotherWhat() {
        edge("32", "NONE for another what");
        for (int what : ints(-1, 2, LOW, HIGH)) {
            due(x.fault(what), NONE);
        }
        due(mind("A"), NONE);
        for (int what : ints(-1, 2, LOW, HIGH)) {
            due(x.fault(what), NONE);
        }
    }

    private void latestManners() {
        edge("32", "Of the latest manners()");
        due(mind("A=;A"), NONE);
        // Other calls that read the tape leave it, with a fault or without.
        due(ask("\t"), NONE);
        put("\t");
        due(x.mannerly(), NONE);
        put("I");
        due(x.make(), NONE);
        due(x.fault(0), 2);
        due(x.fault(1), 3);
        due(mind("A=;"), 1);
        due(x.fault(0), 0);
        due(x.fault(1), NONE);
    }

    // ---- 33: mannerly

    private void isMannerly(String question, int due) {
        put(question);
        due(x.mannerly(), due);
        dueEmptyTape();
    }

    private void mannerlyOrNot() {
        edge("33", "1 if the WORDS of THE TAPE (read, and empty then; as of a QUESTION) are a MANNERLY question, else 0");
        isMannerly("", 0);
        isMannerly("x", 0);
        due(mind("A=|x y;"), 1);
        isMannerly("", 1);
        isMannerly(" \n~", 1);
        isMannerly("X, Y!", 1);
        isMannerly("x", 0);
        isMannerly("x y x", 0);
        isMannerly("xy", 0);
        isMannerly("x-y", 1);
        due(mind("A=x[abcdefghijkl];"), 1);
        isMannerly("x", 1);
        isMannerly("x ABCDEFGHIJKL", 1);
        isMannerly("x abcdefghijklm", 0);
        isMannerly("x abcdefghijk", 0);
        isMannerly("", 0);
        isMannerly("a".repeat(400), 0);
    }

    private void sixtyWords() {
        edge("33", "NONE: another byte, or more than 60 WORDS");
        due(mind("A=BBBBBB[x];B=CC;C=x x x x x;"), 3);
        isMannerly("x ".repeat(60), 1);
        isMannerly("x ".repeat(59), 0);
        isMannerly("x ".repeat(61), NONE);
        isMannerly("y ".repeat(60), 0);
        isMannerly("y ".repeat(61), NONE);
        isMannerly("x ".repeat(200), NONE);
        for (int bad : ints(0, 9, 11, 31, 127, 128, 255)) {
            isMannerly("x ".repeat(60) + (char) bad, NONE);
            isMannerly("" + (char) bad, NONE);
        }
        for (int good : ints(10, 32, '@', '[', '`', '{', 126)) {
            isMannerly(("x" + (char) good).repeat(60), 1);
        }
    }

    private void noTextYet() {
        edge("33", "NONE: another byte, or more than 60 WORDS");
        isMannerly("x ".repeat(61), NONE);
        isMannerly("x ".repeat(60), 0);
        isMannerly("\t", NONE);
        // What is asked by ask() is left alone.
        due(x.asked(0), NONE);
        due(x.turnOf(0), RANGE);
        due(x.count(5), 0);
    }

    // ---- 34: questions

    private void eachAsOften() {
        edge("34", "How many MANNERLY questions of just n WORDS (0 .. 60) there are, by their WORDS, each as often as it can be had");
        due(x.questions(0), 0);
        due(x.questions(60), 0);
        due(mind("A=;"), 1);
        due(x.questions(0), 1);
        due(x.questions(1), 0);
        due(mind("A=[];"), 1);
        due(x.questions(0), 2);
        due(mind("A=x|x|[x];"), 1);
        due(x.questions(0), 1);
        due(x.questions(1), 3);
        due(mind("A=" + "x ".repeat(60) + ";"), 1);
        due(x.questions(60), 1);
        due(x.questions(59), 0);
        due(mind("A=" + "x ".repeat(60) + "[x];"), 1);
        due(x.questions(60), 1);
        due(mind("A=x " + "x ".repeat(60) + ";"), 1);
        due(x.questions(60), 0);
        due(mind("B=x;"), 1);
        due(x.questions(1), 0);
    }

    private void waysAtMost() {
        edge("34", "at most 1000000000000, FULL beyond");
        due(mind("A=BBB;B=HHHH;" + TEN), 3);
        due(x.questions(12), 1000000000000L);
        due(x.questions(11), 0);
        due(mind("A=BBB|" + "y ".repeat(12) + ";B=HHHH;" + TEN), 3);
        due(x.questions(12), FULL);
        due(mind("A=BBB|" + "y ".repeat(13) + ";B=HHHH;" + TEN), 3);
        due(x.questions(12), 1000000000000L);
        due(x.questions(13), 1);
        // Each number of words by itself.
        due(mind("A=BBD|D;B=HHHH;D=HHHH|;" + TEN), 4);
        due(x.questions(12), 1000000000000L);
        due(x.questions(8), 100000000L);
        due(x.questions(4), 10000);
        due(x.questions(0), 1);
    }

    private void waysFarBeyond() {
        edge("34", "at most 1000000000000, FULL beyond");
        // 10 to the power of 60: far beyond a long.
        due(mind("A=BBBBB;B=DDD;D=HHHH;" + TEN), 4);
        due(x.questions(60), FULL);
        due(x.questions(59), 0);
        // Nothing at all times as much is nothing.
        due(mind("A=BBBBBG;B=DDD;D=HHHH;" + TEN), 4);
        due(x.questions(60), 0);
        // 2 to the power of 64, which a long would take for 0.
        due(mind("A=BB;B=CCCC;C=DDDD;D=[][];"), 4);
        due(x.questions(0), FULL);
        due(mind("A=BB[H];B=CCCC;C=DD;D=[];"), 4);
        due(x.questions(0), 65536);
    }

    private void noSuchNumberOfWords() {
        edge("34", "RANGE");
        for (int n : ints(-1, 61, LOW, HIGH)) {
            due(x.questions(n), RANGE);
        }
        due(mind("A=" + "x ".repeat(60) + "[x];"), 1);
        for (int n : ints(-1, 61, LOW, HIGH)) {
            due(x.questions(n), RANGE);
        }
    }

    // ---- 35, 36: make, made

    private int makeOf(String row) {
        put(row);
        return x.make();
    }

    private void wordsMade() {
        edge("35", "A question is MADE of THE TAPE's row (a byte a CUE, its number and 65; 0 .. 6 of them; read, and empty then): how many WORDS");
        nameCues("a");
        due(name(7, "h"), 1);
        due(mind("A=[B]B B|;B=a|h|y;"), 2);
        due(makeOf(""), 0);
        dueEmptyTape();
        dueText(madeText(), "");
        due(makeOf("H"), 2);
        dueEmptyTape();
        dueText(madeText(), "h y");
        due(makeOf("AHA"), 3);
        dueText(madeText(), "a h a");
        due(mind("A=BBBBBB[y];B=a|h;"), 2);
        due(makeOf("AAAAAH"), 6);
        dueText(madeText(), "a a a a a h");
    }

    private void noRowToMake() {
        edge("35", "NONE: it is no row");
        nameCues("a");
        // NONE comes ahead of FULL: nothing is mannerly yet.
        due(makeOf("AAAAAAA"), NONE);
        due(makeOf("I"), NONE);
        due(mind("A=a[a][a][a][a][a][a];"), 1);
        due(makeOf("AAAAAA"), 6);
        for (String none : texts("AAAAAAA", "@", "I", "a", "A ", " ", "0", "\0", "" + (char) 193)) {
            due(makeOf(none), NONE);
            dueEmptyTape();
        }
        due(makeOf("A".repeat(400)), NONE);
        dueText(madeText(), "a a a a a a");
    }

    private void noneCanBeMade() {
        edge("35", "FULL: none can be MADE");
        nameCues("a");
        due(makeOf(""), FULL);
        due(makeOf("A"), FULL);
        dueEmptyTape();
        due(mind("A=a|H;"), 1);
        due(makeOf("A"), 1);
        for (String row : texts("", "AA", "B", "AB", "H")) {
            due(makeOf(row), FULL);
            dueEmptyTape();
        }
        dueText(madeText(), "a");
        // Rules of standing beside are no matter of manners.
        due(x.first(0, false), 1);
        due(makeOf("A"), 1);
    }

    private void sixtyAreMade() {
        edge("35", "FULL: none can be MADE");
        due(mind("A=BBBBB;B=CCCC;C=x x x;"), 3);
        due(makeOf(""), 60);
        due(mind("A=BBBBB y;B=CCCC;C=x x x;"), 3);
        due(makeOf(""), FULL);
        due(x.made(0), 'x');
        due(mind("A=y BBBBB;B=CCCC;C=x x x;"), 3);
        due(makeOf(""), FULL);
        due(mind("A=D BBBBB;B=CCCC;C=x x x;D=[y];"), 4);
        due(makeOf(""), 60);
        due(mind("A=BBBBBD;B=CCCC;C=x x x;D=y;"), 4);
        due(makeOf(""), FULL);
    }

    private void bytesMade() {
        edge("36", "Byte i of the latest question that was MADE (WORDS with one blank between)");
        due(mind("A=abcdefghijkl  \n z;"), 1);
        due(makeOf(""), 2);
        due(x.made(0), 'a');
        due(x.made(11), 'l');
        due(x.made(12), ' ');
        due(x.made(13), 'z');
        due(x.made(14), NONE);
        // Those that weren't made leave it; so do other manners and words.
        due(makeOf("A"), FULL);
        due(makeOf("I"), NONE);
        due(mind("A=q;"), 1);
        due(name(0, "z"), 1);
        due(x.made(13), 'z');
        due(makeOf(""), 1);
        due(x.made(0), 'q');
        due(x.made(1), NONE);
        due(x.made(13), NONE);
    }

    private void longestMade() {
        edge("36", "Byte i of the latest question that was MADE (WORDS with one blank between)");
        due(mind("A=BBBBB;B=CCCC;C=DDD;D=abcdefghijkl;"), 4);
        due(makeOf(""), 60);
        for (int i = 0; i < 60; i++) {
            due(x.made(13 * i), 'a');
            due(x.made(13 * i + 11), 'l');
            due(x.made(13 * i + 12), i < 59 ? ' ' : NONE);
        }
    }

    private void noByteMade() {
        edge("36", "NONE");
        due(x.made(0), NONE);
        due(makeOf("I"), NONE);
        due(x.made(0), NONE);
        due(makeOf(""), FULL);
        due(x.made(0), NONE);
        due(mind("A=x;"), 1);
        due(makeOf(""), 1);
        for (int i : ints(-1, 1, 2, 780, LOW, HIGH)) {
            due(x.made(i), NONE);
        }
        // One without words has no byte.
        due(mind("A=;"), 1);
        due(makeOf(""), 0);
        due(x.made(0), NONE);
    }
}
