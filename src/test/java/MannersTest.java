/** Promises 31 to 36: manners, faults, questions by them, questions made. */
public final class MannersTest {
    private static final int NONE = StagePair.NONE;
    private static final int RANGE = StagePair.RANGE;
    private static final int FULL = StagePair.FULL;
    private static final int LOW = Integer.MIN_VALUE;
    private static final int HIGH = Integer.MAX_VALUE;

    private final Bench b = new Bench();

    public static void main(String[] args) {
        MannersTest t = new MannersTest();
        t.manners();
        t.syntax();
        t.twiceAndOrder();
        t.room();
        t.mannerly();
        t.mannerlyAtEdges();
        t.questions();
        t.questionsAtEdges();
        t.make();
        t.makeFewest();
        t.manyWords();
        t.makeAtEdges();
        t.b.finish("MannersTest");
    }

    private void manners() {
        StagePair x = b.begin(31);
        b.due(x.manners(), 0);
        b.due(b.mind("A = a;"), 1);
        b.due(x.count(3), 0);
        b.due(b.mind("H=;G=H|;\nF=[[[[g]]]]f;A=B abcdefghijkl C[|];"), 4);
        b.due(b.mind("A=BCDEFGH;B=;C=;D=;E=;F=;G=;H=;"), 8);
        b.due(x.questions(0), 1);
        // With a fault the old ones stay.
        b.due(b.mind("A = a"), NONE);
        b.due(x.count(3), 0);
        b.due(x.questions(0), 1);
        b.due(b.mind("A = a; A = b;"), NONE);
        b.due(x.questions(0), 1);
        b.due(x.questions(1), 0);
        b.put("");
        b.due(x.mannerly(), 1);
        // An empty text has no rule: no question is mannerly.
        b.due(b.mind(" \n "), 0);
        b.due(x.questions(0), 0);

        x = b.begin(32);
        b.due(x.fault(0), 0);
        b.due(x.fault(1), NONE);
        b.due(b.mind("A"), NONE);
        b.due(x.fault(0), 1);
        b.due(x.fault(1), 1);
        for (int what : new int[] {-1, 2, LOW, HIGH}) {
            b.due(x.fault(what), NONE);
        }
        b.due(b.mind("A=;"), 1);
        b.due(x.fault(0), 0);
        b.due(x.fault(1), NONE);
    }

    private void fault(String text, int kind, int place) {
        b.due(b.mind(text), NONE);
        b.due(b.x.fault(0), kind);
        b.due(b.x.fault(1), place);
    }

    private void syntax() {
        b.begin(32);
        fault("A  ", 1, 3);
        fault(" A = x", 1, 6);
        fault("A =", 1, 3);
        fault("A = [x", 1, 6);
        fault(";", 1, 0);
        fault("A;", 1, 1);
        fault("A B = x;", 1, 2);
        fault("A = = x;", 1, 4);
        fault("A = x;;", 1, 6);
        fault("A = x; x", 1, 7);
        fault("A = x; = y;", 1, 7);
        fault("A = x; [", 1, 7);
        fault("A = x; |", 1, 7);
        fault("A = x; ]", 1, 7);
        fault("A = ];", 1, 4);
        fault("A = [x]];", 1, 7);
        fault("A = [x|;", 1, 7);
        fault("A = [=];", 1, 5);
        fault("A x = y;", 1, 2);
        fault("A | x;", 1, 2);
        fault("A [x];", 1, 2);
        fault("A = I;", 1, 4);
        fault("A = x, y;", 1, 5);
        fault("A = x\ty;", 1, 5);
        fault("A = x" + (char) 255 + ";", 1, 5);
        fault("A = abcdefghijklm;", 1, 4);
        fault("abcdefghijklm", 1, 0);
        fault("A=x1;", 1, 3);
        // A text that ends in a word, behind a longer one, and one as long as the tape.
        fault("A=xxxxxxxxx", 1, 11);
        fault("A=x", 1, 3);
        fault("A=" + " x".repeat(100) + " ".repeat(197) + "x", 1, 400);
        // Wherever a fault is: the first one come to.
        fault("A = B A; A = ];", 3, 6);
    }

    private void twiceAndOrder() {
        b.begin(32);
        fault("A=x;B=y;A=z;", 2, 8);
        fault("B=;\nB", 2, 4);
        fault("A=;A A", 2, 3);
        fault("B=B;", 3, 2);
        fault("H=H;", 3, 2);
        fault("C=D[E|B];", 3, 6);
        fault("A=B;B=A;", 3, 6);
        // Later letters are good with a rule, without one, ahead of it or behind.
        b.due(b.mind("B=C;A=BC H;"), 2);
    }

    private void room() {
        b.begin(32);
        fault("A=[[[[[]]]]];", 4, 6);
        b.due(b.mind("A=[[[[]]]][[[[]]]];"), 1);
        fault("A=[[[[] [ [", 4, 10);
        // 120 items are good, each WORD, NAME and [ being one.
        String half = "x ".repeat(60);
        b.due(b.mind("A=" + half + "B".repeat(30) + "[]".repeat(30) + ";"), 1);
        fault("A=" + half + "B".repeat(30) + "[]".repeat(30) + "x;", 4, 2 + 120 + 30 + 60);
        fault("A=" + half + half + "B;", 4, 242);
        fault("A=" + half + half + "[];", 4, 242);
        b.begin(32);
        fault("B=" + half + half + "A;", 3, 242);
        fault("B=" + half + half + "];", 1, 242);
        fault("B=" + half + half + "abcdefghijklm;", 1, 242);
        fault("B=" + half + half + ";A=x;", 4, 245);
        b.due(b.mind("B=" + half + half + ";A=|;"), 2);
    }

    private void question(String text, int due) {
        b.put(text);
        b.due(b.x.mannerly(), due);
        b.due(b.x.count(3), 0);
    }

    private void mannerly() {
        b.begin(33);
        question("", 0);
        question("x", 0);
        b.due(b.mind("A = [please] B | now now; B = tell sir | well [C]; C = what; D = out;"), 4);
        question("Please, tell SIR!", 1);
        question("tell sir", 1);
        question("please", 0);
        question("", 0);
        question("well", 1);
        question("well what", 1);
        question("please well what?", 1);
        question("please well what what", 0);
        question("what", 0);
        question("out", 0);
        question("now\nnow", 1);
        question("now", 0);
        question("nownow", 0);
        question("now now" + (char) 127, NONE);
        question("now now" + (char) 9, NONE);
        question("now 1 now", 1);
        // A name without a rule: nothing can be it, in one row alone.
        b.due(b.mind("A = x B | y [B] | [B | z];"), 1);
        question("x", 0);
        question("y", 1);
        question("z", 1);
        question("", 1);
        question("y z", 0);
        // Rules in another order than their names.
        b.due(b.mind("C = x; B = C y; A = B [C];"), 3);
        question("x y", 1);
        question("x y x", 1);
        question("x", 0);
        b.due(b.x.questions(2), 1);
        b.due(b.x.questions(3), 1);
        b.put("");
        b.due(b.x.make(), 2);
        // Rows within [ ] within [ ].
        b.due(b.mind("A = a [b [c | d [e]] | f] g;"), 1);
        question("a g", 1);
        question("a b g", 1);
        question("a b c g", 1);
        question("a b d e g", 1);
        question("a f g", 1);
        question("a c g", 0);
        question("a b e g", 0);
        question("a b f g", 0);
        question("a b c d g", 0);
        question("b g", 0);
    }

    private void mannerlyAtEdges() {
        b.begin(33);
        // 60 words by doubling names.
        b.due(b.mind("A=BBCD;B=CCC;C=DDD;D=[x];"), 4);
        question("x ".repeat(22), 1);
        question("x ".repeat(23), 0);
        question("", 1);
        b.due(b.mind("A=BBBB[x];B=CCC;C=xxxxx|D;D=x x x x x;"), 4);
        question("x ".repeat(60), 1);
        question("x ".repeat(59), 0);
        question("x ".repeat(61), NONE);
        question("x ".repeat(200), NONE);
        question("xxxxx ".repeat(12), 1);
        question("xxxxx ".repeat(13), 0);
        question("xxxxx ".repeat(12) + "x", 1);
        // A word is one as a whole, however long it is on the tape.
        b.due(b.mind("A=abcdefghijkl;"), 1);
        question("abcdefghijkl", 1);
        question("abcdefghijklm", 0);
        question("abcdefghijk", 0);
        question("abcdefghijkl".repeat(30), 0);
    }

    private void questions() {
        StagePair x = b.begin(34);
        for (int n : new int[] {-1, 61, LOW, HIGH}) {
            b.due(x.questions(n), RANGE);
        }
        b.due(x.questions(60), 0);
        // Each as often as it can be had: nothing twice, x twice.
        b.due(b.mind("A = [|x|x];"), 1);
        b.due(x.questions(0), 2);
        b.due(x.questions(1), 2);
        b.due(x.questions(2), 0);
        b.due(b.mind("A = B B | ; B = x | y [z];"), 2);
        b.due(x.questions(0), 1);
        b.due(x.questions(1), 0);
        b.due(x.questions(2), 4);
        b.due(x.questions(3), 4);
        b.due(x.questions(4), 1);
        b.due(b.mind("A = x B | y;"), 1);
        b.due(x.questions(1), 1);
        b.due(x.questions(2), 0);
        b.due(b.mind("A = a [b [c | d [e]] | f] g;"), 1);
        b.due(x.questions(2), 1);
        b.due(x.questions(3), 2);
        b.due(x.questions(4), 2);
        b.due(x.questions(5), 1);
        b.due(x.questions(6), 0);
        // B has a rule, A none.
        b.due(b.mind("B = x;"), 1);
        b.due(x.questions(1), 0);
    }

    private void questionsAtEdges() {
        StagePair x = b.begin(34);
        // 10 to the power of 12 is told, one more is beyond.
        String ten = "C=" + "x|".repeat(9) + "x;";
        b.due(b.mind("A=BBB;B=CCCC;" + ten), 3);
        b.due(x.questions(12), 1000000000000L);
        b.due(x.questions(11), 0);
        b.due(b.mind("A=BBB|B B B;B=CCCC;" + ten), 3);
        b.due(x.questions(12), FULL);
        b.due(b.mind("A=BBB|D;B=CCCC;D=" + "y ".repeat(12) + ";" + ten), 4);
        b.due(x.questions(12), FULL);
        b.due(b.mind("A=BBBC;B=CCCC;" + ten), 3);
        b.due(x.questions(13), FULL);
        // Beyond and times nothing at all is nothing.
        b.due(b.mind("A=BBBBBH;B=CCCC;" + ten), 3);
        b.due(x.questions(20), 0);
        // Far beyond what a long holds, and 60 words.
        b.due(b.mind("A=BBBBBBB;B=CCCC;C=DD;D=" + "x|".repeat(15) + "x;"), 4);
        b.due(x.questions(56), FULL);
        b.due(x.questions(55), 0);
        b.due(x.questions(60), 0);
        b.due(b.mind("A=BBBBB;B=CCCC;C=x x x;"), 3);
        b.due(x.questions(60), 1);
        b.due(b.mind("A=BBBBBB;B=CCCC;C=x x x;"), 3);
        b.due(x.questions(60), 0);
        b.due(b.mind("A=" + "x ".repeat(60) + ";"), 1);
        b.due(x.questions(60), 1);
        b.due(b.mind("A=" + "x ".repeat(61) + ";"), 1);
        b.due(x.questions(60), 0);
        b.due(b.mind("A=B[B];B=CC;C=DD;D=EE;E=FF;F=GG;G=xx xx|;"), 7);
        b.due(x.questions(0), 2);
        b.due(x.questions(2), 32 + 64);
        b.due(x.questions(4), 32 * 31 / 2 + 64 * 63 / 2);
        b.due(x.questions(60), FULL);
    }

    private void made(String row, int words, String text) {
        b.put(row);
        b.due(b.x.make(), words);
        b.due(b.x.count(3), 0);
        b.dueText(b.madeText(), text);
    }

    private void make() {
        StagePair x = b.begin(35);
        b.nameCues("please", "now", "well", "sir");
        b.put("A");
        b.due(x.make(), FULL);
        b.due(b.mind("A = [please] B | now now; B = tell sir | well [C]; C = what;"), 3);
        made("C", 1, "well");
        made("AC", 2, "please well");
        made("D", 2, "tell sir");
        made("AD", 3, "please tell sir");
        made("BB", 2, "now now");
        made("B", FULL, "now now");
        made("", FULL, "now now");
        for (String none : new String[] {"AAAAAAA", "I", "a", "A ", "@"}) {
            made(none, NONE, "now now");
        }
    }

    /** A new room, as one is used for 512 calls alone. */
    private void hall(String manners) {
        b.begin(35);
        b.nameCues("please", "now", "well", "sir");
        b.due(b.mind(manners), 1);
    }

    /** Texts of a hundred words each, one behind the other. */
    private void manyWords() {
        b.begin(33);
        for (int round = 0; round < 4; round++) {
            StringBuilder text = new StringBuilder("A=");
            for (int i = 0; i < 100; i++) {
                text.append((char) ('a' + (i + round) % 26)).append((char) ('b' + i / 26 + 4 * round)).append('|');
            }
            b.due(b.mind(text + ";"), 1);
            b.due(b.x.questions(1), 100);
            question("ab", round == 0 ? 1 : 0);
            question("af", round == 1 ? 1 : 0);
            question("yq", round == 3 ? 1 : 0);
        }
    }

    private void makeFewest() {
        // The fewest words, then the first by the first word that is unlike.
        hall("A = z | x y | a b c; ");
        made("", 1, "z");
        hall("A = so now | sop now | so x now | s now y;");
        made("B", 2, "so now");
        hall("A = sop now | so now | so;");
        made("B", 2, "so now");
        hall("A = b a | a z | a b | b;");
        made("", 1, "b");
        hall("A = b a | a z | a y;");
        made("", 2, "a y");
        hall("A = now z | a now;");
        made("B", 2, "a now");
        // Words are cues as they are.
        b.put("a");
        b.due(b.x.word(4), 1);
        made("B", 2, "now z");
        made("EB", 2, "a now");
        b.put("xx");
        b.due(b.x.word(1), 2);
        made("B", FULL, "a now");
        made("", 2, "now z");
        // No words at all: it is made, and has no byte.
        b.due(b.mind("A = | a;"), 1);
        made("", 0, "");
        made("E", 1, "a");
        made("EE", FULL, "a");
    }

    private void makeAtEdges() {
        b.begin(36);
        b.due(b.x.made(0), NONE);
        b.nameCues("a", "b");
        // A row parted among names in the best way; a and b in one order alone.
        b.due(b.mind("A = B C B; B = [a x] [b] [C]; C = [y] b [a | z z];"), 3);
        made("B", 1, "b");
        made("BB", 2, "b b");
        made("ABBA", 5, "a x b b a");
        made("ABABAB", 7, "a x b a b a b");
        for (int i : new int[] {-1, LOW, HIGH}) {
            b.due(b.x.made(i), NONE);
        }
        // Sixty words of twelve letters: 779 bytes.
        String word = "abcdefghijkl";
        b.due(b.mind("A=BBBBBB[x];B=CC;C=DDDDD;D=" + word + ";"), 4);
        b.put("");
        b.due(b.x.make(), 60);
        b.due(b.x.made(778), 'l');
        b.due(b.x.made(779), NONE);
        b.due(b.x.made(12), ' ');
        b.due(b.x.made(766), ' ');
        String all = (word + " ").repeat(60);
        for (int i = 0; i < 779; i += 7) {
            b.due(b.x.made(i), all.charAt(i));
        }
        // One more can't be made.
        b.begin(36);
        b.due(b.mind("A=BBBBBB x|y;B=CC;C=DDDDD;D=x;"), 4);
        b.put("");
        b.due(b.x.make(), 1);
        b.due(b.mind("A=BBBBBB x;B=CC;C=DDDDD;D=x;"), 4);
        b.put("");
        b.due(b.x.make(), FULL);
        b.dueText(b.madeText(), "y");
        b.due(b.mind("A=BBBBBBC;B=CC;C=DDDDD;D=x;"), 4);
        b.put("");
        b.due(b.x.make(), FULL);
    }
}
