/** Boundaries that promises 31 to 36 name: manners, faults, questions by them, questions made. */
public final class MannersEdgesTest extends Edges {
    /** Ten ways of one word. */
    private static final String TEN = "H=" + "x|".repeat(9) + "x;";

    public static void main(String[] args) throws Exception {
        new MannersEdgesTest().runAll();
    }

    // ---- 31: manners

    private void rulesRead() {
        edge("31", "THE TAPE (read, and empty then) is the MANNERS: how many rules");
        due(x.manners(), 0);
        due(mind("A=;"), 1);
        dueEmptyTape();
        due(mind("H=;G=;F=;E=;D=;C=;B=;A=;"), 8);
        due(mind(" \n"), 0);
        due(mind("A=x" + " ".repeat(396) + ";"), 1);
        due(x.questions(1), 1);
        // A text without a rule is one, too: nothing is mannerly any more.
        due(mind(""), 0);
        due(x.questions(1), 0);
        due(x.questions(0), 0);
    }

    private void mannersStay() {
        edge("31", "NONE with a FAULT (the MANNERS stay)");
        due(mind("A"), NONE);
        dueEmptyTape();
        due(x.questions(0), 0);
        nameCues("x");
        due(mind("A=x x|B;B=y;"), 2);
        for (String bad : texts("A", "A=z;A=z;", "B=B;", "A=[[[[[", "A=" + "z ".repeat(121) + ";", "B=;A=z;C", "A=z;?")) {
            due(mind(bad), NONE);
            dueEmptyTape();
            due(x.questions(1), 1);
            due(x.questions(2), 1);
            put("x x");
            due(x.mannerly(), 1);
            put("z");
            due(x.mannerly(), 0);
            put("");
            due(x.make(), 1);
            due(x.made(0), 'y');
        }
    }

    /** So many words of two letters, from the n-th one on. */
    private static String wordsFrom(int n, int many) {
        StringBuilder s = new StringBuilder();
        for (int i = n; i < n + many; i++) {
            s.append((char) ('a' + i / 26)).append((char) ('a' + i % 26)).append('|');
        }
        return s.toString();
    }

    private void eachTextAnew() {
        edge("31", "THE TAPE (read, and empty then) is the MANNERS: how many rules");
        // As many words, unlike all, as one text can have; time and again, other ones.
        for (int round = 0; round < 6; round++) {
            due(mind(" ".repeat(7 * round) + "A=" + wordsFrom(90 * round, 120) + ";"), 1);
            due(x.questions(1), 120);
            due(x.questions(0), 1);
            put(wordsFrom(90 * round, 1));
            due(x.mannerly(), 1);
            put(wordsFrom(90 * round + 119, 1));
            due(x.mannerly(), 1);
            put(wordsFrom(90 * round + 120, 1));
            due(x.mannerly(), 0);
            put(wordsFrom((90 * round + 450) % 540, 1));
            due(x.mannerly(), 0);
        }
    }

    private void noRuleAnyMore() {
        edge("31", "THE TAPE (read, and empty then) is the MANNERS: how many rules");
        nameCues("x");
        due(mind("A=BC|BD;B=x;C=y;D=[z];"), 4);
        isMannerly("x y", 1);
        isMannerly("x", 1);
        due(x.questions(1), 1);
        due(makeOf("A"), 1);
        // The rules of an earlier text are none of this one.
        due(mind("A=BC|BD|w;C=y;D=[z];"), 3);
        isMannerly("x y", 0);
        isMannerly("x", 0);
        isMannerly("y", 0);
        isMannerly("w", 1);
        due(x.questions(1), 1);
        due(x.questions(2), 0);
        due(makeOf("A"), FULL);
        due(makeOf(""), 1);
        due(mind("B=x;C=y;D=z;"), 3);
        isMannerly("x y", 0);
        due(x.questions(1), 0);
        due(makeOf("A"), FULL);
        due(makeOf(""), FULL);
    }

    // ---- 32: fault

    private void kindsOfFaults() {
        edge("32", "what 0: its FAULT's KIND, 0 without (and ahead of any)");
        due(x.fault(0), 0);
        String[] texts = {"A=;", ";", "A=;A", "A=A", "A=[[[[[", "A=x;", "B=;B", ""};
        int[] kinds = {0, 1, 2, 3, 4, 0, 2, 0};
        for (int i = 0; i < texts.length; i++) {
            due(mind(texts[i]), kinds[i] == 0 ? Math.min(texts[i].length(), 1) : NONE);
            due(x.fault(0), kinds[i]);
        }
    }

    private void placesOfFaults() {
        edge("32", "1: its PLACE (NONE)");
        due(x.fault(1), NONE);
        due(mind(";"), NONE);
        due(x.fault(1), 0);
        due(mind("A=x"), NONE);
        due(x.fault(1), 3);
        due(mind("A=x;"), 1);
        due(x.fault(1), NONE);
        due(mind(" ".repeat(399) + ";"), NONE);
        due(x.fault(1), 399);
        due(mind("A=" + " ".repeat(398)), NONE);
        due(x.fault(1), 400);
        due(mind(""), 0);
        due(x.fault(1), NONE);
    }

    private void faultOfAnotherWhat() {
        edge("32", "NONE for another what");
        for (int what : ints(-1, 2, LOW, HIGH)) {
            due(x.fault(what), NONE);
        }
        due(mind("A"), NONE);
        for (int what : ints(-1, 2, LOW, HIGH)) {
            due(x.fault(what), NONE);
        }
    }

    private void latestManners() {
        edge("32", "Of the latest manners()");
        due(mind("A=;A"), NONE);
        // Other calls that read the tape leave it, with a fault or without.
        due(ask("\t"), NONE);
        put("\t");
        due(x.mannerly(), NONE);
        put("I");
        due(x.make(), NONE);
        due(x.fault(0), 2);
        due(x.fault(1), 3);
        due(mind("A=;"), 1);
        due(x.fault(0), 0);
        due(x.fault(1), NONE);
    }

    // ---- 33: mannerly

    private void isMannerly(String question, int due) {
        put(question);
        due(x.mannerly(), due);
        dueEmptyTape();
    }

    private void mannerlyOrNot() {
        edge("33", "1 if the WORDS of THE TAPE (read, and empty then; as of a QUESTION) are a MANNERLY question, else 0");
        isMannerly("", 0);
        isMannerly("x", 0);
        due(mind("A=|x y;"), 1);
        isMannerly("", 1);
        isMannerly(" \n~", 1);
        isMannerly("X, Y!", 1);
        isMannerly("x", 0);
        isMannerly("x y x", 0);
        isMannerly("xy", 0);
        isMannerly("x-y", 1);
        due(mind("A=x[abcdefghijkl];"), 1);
        isMannerly("x", 1);
        isMannerly("x ABCDEFGHIJKL", 1);
        isMannerly("x abcdefghijklm", 0);
        isMannerly("x abcdefghijk", 0);
        isMannerly("", 0);
        isMannerly("a".repeat(400), 0);
    }

    private void sixtyWords() {
        edge("33", "NONE: another byte, or more than 60 WORDS");
        due(mind("A=BBBBBB[x];B=CC;C=x x x x x;"), 3);
        isMannerly("x ".repeat(60), 1);
        isMannerly("x ".repeat(59), 0);
        isMannerly("x ".repeat(61), NONE);
        isMannerly("y ".repeat(60), 0);
        isMannerly("y ".repeat(61), NONE);
        isMannerly("x ".repeat(200), NONE);
        for (int bad : ints(0, 9, 11, 31, 127, 128, 255)) {
            isMannerly("x ".repeat(60) + (char) bad, NONE);
            isMannerly("" + (char) bad, NONE);
        }
        for (int good : ints(10, 32, '@', '[', '`', '{', 126)) {
            isMannerly(("x" + (char) good).repeat(60), 1);
        }
    }

    private void fourOpen() {
        edge("33", "1 if the WORDS of THE TAPE (read, and empty then; as of a QUESTION) are a MANNERLY question, else 0");
        due(mind("A=a[b[c[d[e]|f]g]|h]i;"), 1);
        for (String good : texts("a i", "a h i", "a b i", "a b c g i", "a b c f g i", "a b c d g i", "a b c d e g i")) {
            isMannerly(good, 1);
        }
        for (String bad : texts("a", "i", "a b h i", "a b c i", "a b c d f g i", "a b c e g i", "a b d g i",
            "a b c d e f g i", "a b c d e g", "a h h i", "a d i", "a e i")) {
            isMannerly(bad, 0);
        }
        due(x.questions(2), 1);
        due(x.questions(3), 2);
        due(x.questions(5), 1);
        due(x.questions(6), 2);
        due(x.questions(7), 1);
        for (int n : ints(0, 1, 4, 8, 60)) {
            due(x.questions(n), 0);
        }
    }

    private void partsAtManyPlaces() {
        edge("33", "1 if the WORDS of THE TAPE (read, and empty then; as of a QUESTION) are a MANNERLY question, else 0");
        // A part that can begin at each of some words, and end at others.
        due(mind("A=[x][x]B[y]C;B=x|x x;C=|y y;"), 3);
        for (int xs = 0; xs <= 5; xs++) {
            for (int ys = 0; ys <= 4; ys++) {
                isMannerly("x ".repeat(xs) + "y ".repeat(ys), xs >= 1 && xs <= 4 && ys <= 3 ? 1 : 0);
            }
        }
    }

    private void noTextYet() {
        edge("33", "NONE: another byte, or more than 60 WORDS");
        isMannerly("x ".repeat(61), NONE);
        isMannerly("x ".repeat(60), 0);
        isMannerly("\t", NONE);
        // What is asked by ask() is left alone.
        due(x.asked(0), NONE);
        due(x.turnOf(0), RANGE);
        due(x.count(5), 0);
    }

    // ---- 34: questions

    private void eachAsOften() {
        edge("34", "How many MANNERLY questions of just n WORDS (0 .. 60) there are, by their WORDS, each as often as it can be had");
        due(x.questions(0), 0);
        due(x.questions(60), 0);
        due(mind("A=;"), 1);
        due(x.questions(0), 1);
        due(x.questions(1), 0);
        due(mind("A=[];"), 1);
        due(x.questions(0), 2);
        due(mind("A=x|x|[x];"), 1);
        due(x.questions(0), 1);
        due(x.questions(1), 3);
        due(mind("A=" + "x ".repeat(60) + ";"), 1);
        due(x.questions(60), 1);
        due(x.questions(59), 0);
        // Nothing at four levels, or one of what a part within all of them stands for.
        due(mind("A=[[[[B]]]];B=x|x y;"), 2);
        due(x.questions(0), 4);
        due(x.questions(1), 1);
        due(x.questions(2), 1);
        due(x.questions(3), 0);
        due(mind("A=" + "x ".repeat(60) + "[x];"), 1);
        due(x.questions(60), 1);
        due(mind("A=x " + "x ".repeat(60) + ";"), 1);
        due(x.questions(60), 0);
        due(mind("B=x;"), 1);
        due(x.questions(1), 0);
    }

    private void waysAtMost() {
        edge("34", "at most 1000000000000, FULL beyond");
        due(mind("A=BBB;B=HHHH;" + TEN), 3);
        due(x.questions(12), 1000000000000L);
        due(x.questions(11), 0);
        due(mind("A=BBB|" + "y ".repeat(12) + ";B=HHHH;" + TEN), 3);
        due(x.questions(12), FULL);
        due(mind("A=BBB|" + "y ".repeat(13) + ";B=HHHH;" + TEN), 3);
        due(x.questions(12), 1000000000000L);
        due(x.questions(13), 1);
        // Each number of words by itself.
        due(mind("A=BBD|D;B=HHHH;D=HHHH|;" + TEN), 4);
        due(x.questions(12), 1000000000000L);
        due(x.questions(8), 100000000L);
        due(x.questions(4), 10000);
        due(x.questions(0), 1);
    }

    private void waysFarBeyond() {
        edge("34", "at most 1000000000000, FULL beyond");
        // 10 to the power of 60: far beyond a long.
        due(mind("A=BBBBB;B=DDD;D=HHHH;" + TEN), 4);
        due(x.questions(60), FULL);
        due(x.questions(59), 0);
        // Nothing at all times as much is nothing.
        due(mind("A=BBBBBG;B=DDD;D=HHHH;" + TEN), 4);
        due(x.questions(60), 0);
        // 2 to the power of 64, which a long would take for 0.
        due(mind("A=BB;B=CCCC;C=DDDD;D=[][];"), 4);
        due(x.questions(0), FULL);
        due(mind("A=BB[H];B=CCCC;C=DD;D=[];"), 4);
        due(x.questions(0), 65536);
    }

    private void waysOfWordsBeyond() {
        edge("34", "at most 1000000000000, FULL beyond");
        // 4 to the power of 16 by itself: 2 to the power of 64.
        due(mind("A=BB;B=DDDD;D=HHHH;H=x|x|x|x;"), 4);
        due(x.questions(32), FULL);
        due(x.questions(31), 0);
        due(mind("A=BB|BBB;B=DDDD;D=HHHH;H=x|x|x|x;"), 4);
        due(x.questions(48), FULL);
        due(x.questions(32), FULL);
        due(x.questions(16), 0);
        // 2 to the power of 27 times 2 to the power of 37, and the other way round.
        for (String both : texts("BC", "CB")) {
            due(mind("A=" + both + ";B=" + "H".repeat(13) + "D;C=" + "H".repeat(18) + "D;D=x|x;H=x|x|x|x;"), 5);
            due(x.questions(33), FULL);
            due(x.questions(32), 0);
        }
        // 2 to the power of 39 is told, 2 to the power of 40 is not.
        due(mind("A=BBB;B=DDDDDDDDDDDDD;D=x|x;"), 3);
        due(x.questions(39), 549755813888L);
        due(mind("A=BBBD;B=DDDDDDDDDDDDD;D=x|x;"), 3);
        due(x.questions(40), FULL);
    }

    private void noSuchNumberOfWords() {
        edge("34", "RANGE");
        for (int n : ints(-1, 61, LOW, HIGH)) {
            due(x.questions(n), RANGE);
        }
        due(mind("A=" + "x ".repeat(60) + "[x];"), 1);
        for (int n : ints(-1, 61, LOW, HIGH)) {
            due(x.questions(n), RANGE);
        }
    }

    // ---- 35, 36: make, made

    private int makeOf(String row) {
        put(row);
        return x.make();
    }

    private void wordsMade() {
        edge("35", "A question is MADE of THE TAPE's row (a byte a CUE, its number and 65; 0 .. 6 of them; read, and empty then): how many WORDS");
        nameCues("a");
        due(name(7, "h"), 1);
        due(mind("A=[B]B B|;B=a|h|y;"), 2);
        due(makeOf(""), 0);
        dueEmptyTape();
        dueText(madeText(), "");
        due(makeOf("H"), 2);
        dueEmptyTape();
        dueText(madeText(), "h y");
        due(makeOf("AHA"), 3);
        dueText(madeText(), "a h a");
        due(mind("A=BBBBBB[y];B=a|h;"), 2);
        due(makeOf("AAAAAH"), 6);
        dueText(madeText(), "a a a a a h");
    }

    private void partsOfWholeRow() {
        edge("35", "A question is MADE of THE TAPE's row (a byte a CUE, its number and 65; 0 .. 6 of them; read, and empty then): how many WORDS");
        nameCues("a", "b", "c", "d", "e", "f");
        String[] all = texts("a ", "b ", "c ", "d ", "e ", "f ");
        for (int cut = 0; cut <= 6; cut++) {
            String one = "";
            String other = "";
            for (int i = 0; i < 6; i++) {
                one += i < cut ? all[i] : "";
                other += i < cut ? "" : all[i];
            }
            for (String parts : texts("BC;B=1;C=2;", "CB;C=1;B=2;", "GH;G=1;H=2;", "HG;H=1;G=2;", "DG;D=1;G=2;")) {
                due(mind("A=" + parts.replace("1", one).replace("2", other)), 3);
                due(makeOf("ABCDEF"), 6);
                dueText(madeText(), "a b c d e f");
            }
            // Each call is counted.
            begin("promise 35 (parts of a whole row)");
            nameCues("a", "b", "c", "d", "e", "f");
        }
        due(mind("A=BCDEFGH;B=a;C=b;D=c;E=d;F=e;G=f;H=|z;"), 8);
        due(makeOf("ABCDEF"), 6);
        dueText(madeText(), "a b c d e f");
        due(makeOf("ABCDE"), FULL);
        due(mind("A=HBCDEFGH;B=a;C=b;D=c;E=d;F=e;G=f;H=z;"), 8);
        due(makeOf("ABCDEF"), 8);
        dueText(madeText(), "z a b c d e f z");
    }

    private void madeOfFourOpen() {
        edge("35", "A question is MADE of THE TAPE's row (a byte a CUE, its number and 65; 0 .. 6 of them; read, and empty then): how many WORDS");
        nameCues("a", "b", "c", "d", "e", "f");
        due(mind("A=a[b[c[d[e]|z]y]|f]x;"), 1);
        String[] rows = {"A", "AB", "ABC", "ABCD", "ABCDE", "AF"};
        String[] due = {"a x", "a b x", "a b c y x", "a b c d y x", "a b c d e y x", "a f x"};
        for (int i = 0; i < rows.length; i++) {
            due(makeOf(rows[i]), (due[i].length() + 1) / 2);
            dueText(madeText(), due[i]);
        }
        for (String none : texts("", "B", "ABD", "ACD", "ABCE", "ABCDEF", "ABF", "F")) {
            due(makeOf(none), FULL);
        }
        // With a part at each level.
        due(mind("A=[B[B[B[B]]]];B=a|b z;"), 2);
        due(makeOf("AAAA"), 4);
        due(makeOf("ABAB"), 6);
        dueText(madeText(), "a b z a b z");
        due(makeOf("BB"), 4);
        due(makeOf(""), 0);
        due(makeOf("AAAAA"), FULL);
    }

    private void noRowToMake() {
        edge("35", "NONE: it is no row");
        nameCues("a");
        // NONE comes ahead of FULL: nothing is mannerly yet.
        due(makeOf("AAAAAAA"), NONE);
        due(makeOf("I"), NONE);
        due(mind("A=a[a][a][a][a][a][a];"), 1);
        due(makeOf("AAAAAA"), 6);
        for (String none : texts("AAAAAAA", "@", "I", "a", "A ", " ", "0", "\0", "" + (char) 193)) {
            due(makeOf(none), NONE);
            dueEmptyTape();
        }
        due(makeOf("A".repeat(400)), NONE);
        dueText(madeText(), "a a a a a a");
    }

    private void noneCanBeMade() {
        edge("35", "FULL: none can be MADE");
        nameCues("a");
        due(makeOf(""), FULL);
        due(makeOf("A"), FULL);
        dueEmptyTape();
        due(mind("A=a|H;"), 1);
        due(makeOf("A"), 1);
        for (String row : texts("", "AA", "B", "AB", "H")) {
            due(makeOf(row), FULL);
            dueEmptyTape();
        }
        dueText(madeText(), "a");
        // Rules of standing beside are no matter of manners.
        due(x.first(0, false), 1);
        due(makeOf("A"), 1);
    }

    private void sixtyAreMade() {
        edge("35", "FULL: none can be MADE");
        due(mind("A=BBBBB;B=CCCC;C=x x x;"), 3);
        due(makeOf(""), 60);
        due(mind("A=BBBBB y;B=CCCC;C=x x x;"), 3);
        due(makeOf(""), FULL);
        due(x.made(0), 'x');
        due(mind("A=y BBBBB;B=CCCC;C=x x x;"), 3);
        due(makeOf(""), FULL);
        due(mind("A=D BBBBB;B=CCCC;C=x x x;D=[y];"), 4);
        due(makeOf(""), 60);
        due(mind("A=BBBBBD;B=CCCC;C=x x x;D=y;"), 4);
        due(makeOf(""), FULL);
    }

    private void sixtyByTwoWays() {
        edge("35", "FULL: none can be MADE");
        nameCues("a");
        // Two cuts of the row give the same sixty words.
        due(mind("A=BC;B=" + "x ".repeat(29) + "[a];C=[a]" + "x ".repeat(30) + ";"), 3);
        due(makeOf("A"), 60);
        due(x.made(58), 'a');
        due(x.made(118), 'x');
        due(x.made(119), NONE);
        due(makeOf(""), 59);
        due(makeOf("AA"), FULL);
    }

    private void bytesMade() {
        edge("36", "Byte i of the latest question that was MADE (WORDS with one blank between)");
        due(mind("A=abcdefghijkl  \n z;"), 1);
        due(makeOf(""), 2);
        due(x.made(0), 'a');
        due(x.made(11), 'l');
        due(x.made(12), ' ');
        due(x.made(13), 'z');
        due(x.made(14), NONE);
        // Those that weren't made leave it; so do other manners and words.
        due(makeOf("A"), FULL);
        due(makeOf("I"), NONE);
        due(mind("A=q;"), 1);
        due(name(0, "z"), 1);
        due(x.made(13), 'z');
        due(makeOf(""), 1);
        due(x.made(0), 'q');
        due(x.made(1), NONE);
        due(x.made(13), NONE);
    }

    private void longestMade() {
        edge("36", "Byte i of the latest question that was MADE (WORDS with one blank between)");
        due(mind("A=BBBBB;B=CCCC;C=DDD;D=abcdefghijkl;"), 4);
        due(makeOf(""), 60);
        for (int i = 0; i < 60; i++) {
            due(x.made(13 * i), 'a');
            due(x.made(13 * i + 11), 'l');
            due(x.made(13 * i + 12), i < 59 ? ' ' : NONE);
        }
    }

    private void noByteMade() {
        edge("36", "NONE");
        due(x.made(0), NONE);
        due(makeOf("I"), NONE);
        due(x.made(0), NONE);
        due(makeOf(""), FULL);
        due(x.made(0), NONE);
        due(mind("A=x;"), 1);
        due(makeOf(""), 1);
        for (int i : ints(-1, 1, 2, 780, LOW, HIGH)) {
            due(x.made(i), NONE);
        }
        // One without words has no byte.
        due(mind("A=;"), 1);
        due(makeOf(""), 0);
        due(x.made(0), NONE);
    }
}
