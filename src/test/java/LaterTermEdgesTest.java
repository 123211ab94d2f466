/** Boundaries that the terms VI to X name. */
public final class LaterTermEdgesTest extends Edges {
    private static final int NO_SUCH = -9;

    public static void main(String[] args) throws Exception {
        new LaterTermEdgesTest().runAll();
    }

    private void fault(String text, int kind, int place) {
        due(mind(text), NONE);
        due(x.fault(0), kind);
        due(x.fault(1), place);
    }

    private void isMannerly(String question, int due) {
        put(question);
        due(x.mannerly(), due);
    }

    private int makeOf(String row) {
        put(row);
        return x.make();
    }

    // ---- VI: the text

    private void blanksBetween() {
        edge("VI", "TOKENS with any blanks (32, 10) between");
        due(mind("A=x[y|z]B;"), 1);
        due(mind(" A\n= x [ y\n|\n\n z ] B ; "), 1);
        due(mind("\n"), 0);
        // No blank is needed between names, nor where signs stand between words.
        due(mind("A=BCx[y]z;"), 1);
        for (int bad : ints(0, 9, 11, 13, 31, 33, 127, 160, 255)) {
            fault("A=" + (char) bad + "x;", 1, 2);
        }
    }

    private void lettersOfParts() {
        edge("VI", "NAMES of parts (a letter A .. H)");
        due(mind("A=BCDEFGH;H=;"), 2);
        due(mind("H=;"), 1);
        fault("I=;", 1, 0);
        fault("Z=;", 1, 0);
        fault("@=;", 1, 0);
        fault("A=I;", 1, 2);
        fault("A=Z;", 1, 2);
        fault("A=@;", 1, 2);
        // Two letters are two names.
        fault("AB=;", 1, 1);
    }

    private void lettersOfWords() {
        edge("VI", "WORDS (small letters, as many as there are, 12 at most)");
        due(mind("A=a|z|abcdefghijkl;"), 1);
        due(x.questions(1), 3);
        fault("A=abcdefghijklm;", 1, 2);
        fault("A=x " + "a".repeat(13) + ";", 1, 4);
        fault("A=" + "a".repeat(398), 1, 2);
        due(mind("A=abcdefghijkl m;"), 1);
        due(x.questions(2), 1);
        fault("A=`;", 1, 2);
        fault("A={;", 1, 2);
        fault("A=a{;", 1, 3);
        // A capital ends a word: it is a name.
        due(mind("A=aBa;B=b;"), 2);
        isMannerly("a b a", 1);
    }

    private void emptyRows() {
        edge("VI", "row = {item}");
        due(mind("A=;"), 1);
        due(x.questions(0), 1);
        due(mind("A=||;"), 1);
        due(x.questions(0), 3);
        due(mind("A=[|];"), 1);
        due(x.questions(0), 3);
        due(mind("A=[[]];"), 1);
        due(x.questions(0), 3);
        due(mind("A=x|;"), 1);
        due(x.questions(0), 1);
        due(x.questions(1), 1);
    }

    private void items() {
        edge("VI", "item = WORD | NAME | \"[\" row {\"|\" row} \"]\"");
        due(mind("A=w;"), 1);
        due(mind("A=B;"), 1);
        due(mind("A=[];"), 1);
        due(mind("A=[w|B|[w]|];B=v;"), 2);
        for (String good : texts("", "w", "v")) {
            isMannerly(good, 1);
        }
        due(x.questions(0), 3);
        due(x.questions(1), 3);
        // A [ holds rows, no rule; each sign has its partner, and none stands in another's place.
        fault("A=[w", 1, 4);
        fault("A=[w;", 1, 4);
        fault("A=w];", 1, 3);
        fault("A=[w]];", 1, 5);
        fault("A=[B=w];", 1, 4);
        fault("A=[[w|];", 1, 7);
        fault("[A]=w;", 1, 0);
    }

    private void noText() {
        edge("VI", "text = {rule \";\"}");
        due(mind(""), 0);
        due(mind("A=;"), 1);
        due(mind("A=;B=;"), 2);
        fault(";", 1, 0);
        fault("A=;;", 1, 3);
        fault("A=", 1, 2);
        fault("A=;B=", 1, 5);
    }

    private void oneRuleAtMost() {
        edge("VI", "Each NAME has one rule at most");
        for (char name = 'A'; name <= 'H'; name++) {
            due(mind(name + "=x;"), 1);
            fault(name + "=x;" + name + "=y;", 2, 4);
        }
        due(mind("H=;G=;F=;E=;D=;C=;B=;A=;"), 8);
        fault("H=;G=;F=;E=;D=;C=;B=;A=;H=;", 2, 24);
    }

    private void laterLetters() {
        edge("VI", "a NAME in a row must be a later letter than that of its rule");
        due(mind("G=H;"), 1);
        fault("G=G;", 3, 2);
        fault("G=F;", 3, 2);
        fault("H=A;", 3, 2);
        fault("H=H;", 3, 2);
        fault("A=A;", 3, 2);
        due(mind("A=BH;"), 1);
        fault("B=x|[C|[A]];", 3, 8);
        // Each rule by its own letter.
        due(mind("C=D;B=C;A=B;"), 3);
        fault("A=B;B=C;C=B;", 3, 10);
    }

    private void rowsOfRules() {
        edge("VI", "rule = NAME \"=\" row {\"|\" row}");
        due(mind("A=x|y|z;"), 1);
        due(x.questions(1), 3);
        due(mind("A=" + "|".repeat(397) + ";"), 1);
        due(x.questions(0), 398);
        fault("A=" + "|".repeat(398), 1, 400);
        fault("A|x;", 1, 1);
        fault("=x;", 1, 0);
    }

    private void wordsStandForThemselves() {
        edge("VI", "a WORD: itself");
        nameCues("tell");
        due(mind("A=tell;"), 1);
        isMannerly("tell", 1);
        isMannerly("TELL!", 1);
        for (String bad : texts("", "tel", "tells", "ell", "tell tell", "a", "w")) {
            isMannerly(bad, 0);
        }
        due(makeOf("A"), 1);
        dueText(madeText(), "tell");
    }

    private void itemsInOrder() {
        edge("VI", "a row: its items in order");
        due(mind("A=x B[y]z;B=|w;"), 2);
        for (String good : texts("x z", "x w z", "x y z", "x w y z")) {
            isMannerly(good, 1);
        }
        for (String bad : texts("z x", "x y w z", "x", "z", "x w y", "w y z", "x z z", "")) {
            isMannerly(bad, 0);
        }
    }

    private void nothingCanBeIt() {
        edge("VI", "any one of its rows (one without a rule: nothing at all can be it)");
        due(mind("A=x|y B|z[B]|[B w];"), 1);
        due(x.questions(0), 1);
        due(x.questions(1), 2);
        due(x.questions(2), 0);
        isMannerly("y", 0);
        isMannerly("z", 1);
        isMannerly("w", 0);
        due(mind("A=B;"), 1);
        due(x.questions(0), 0);
        isMannerly("", 0);
        due(makeOf(""), FULL);
        // With a rule of no words it can be nothing.
        due(mind("A=B;B=;"), 2);
        due(x.questions(0), 1);
        isMannerly("", 1);
        due(makeOf(""), 0);
    }

    private void nothingOrOneOfItsRows() {
        edge("VI", "[ ]: nothing, or one of its rows");
        due(mind("A=[x|y];"), 1);
        isMannerly("", 1);
        isMannerly("x", 1);
        isMannerly("y", 1);
        isMannerly("x y", 0);
        due(mind("A=[];"), 1);
        isMannerly("", 1);
        due(x.questions(0), 2);
        due(mind("A=a[b[c[d[e]]]];"), 1);
        for (int n = 0; n <= 6; n++) {
            due(x.questions(n), n >= 1 && n <= 5 ? 1 : 0);
        }
        isMannerly("a b c d e", 1);
        isMannerly("a c", 0);
    }

    private void withoutWordsToo() {
        edge("VI", "A MANNERLY question is one of what A STANDS FOR (rows of WORDS; without WORDS, too)");
        due(mind("A=|x;B=y;"), 2);
        isMannerly("", 1);
        isMannerly("... 123", 1);
        isMannerly("x", 1);
        isMannerly("y", 0);
        due(mind("B=|y;"), 1);
        isMannerly("", 0);
        isMannerly("y", 0);
    }

    private void noTextAtFirst() {
        edge("VI", "Without a text (first) no question is MANNERLY");
        isMannerly("", 0);
        isMannerly("x", 0);
        for (int n : ints(0, 1, 60)) {
            due(x.questions(n), 0);
        }
        due(makeOf(""), FULL);
        fault("A=x", 1, 3);
        isMannerly("", 0);
        isMannerly("x", 0);
        due(x.questions(1), 0);
    }

    private void itemsInAll() {
        edge("VI", "At most 120 items and [ in all");
        due(mind("A=" + "x ".repeat(120) + ";"), 1);
        fault("A=" + "x ".repeat(121) + ";", 4, 242);
        due(mind("A=" + "B".repeat(120) + ";"), 1);
        fault("A=" + "B".repeat(121) + ";", 4, 122);
        due(mind("A=" + "[]".repeat(120) + ";"), 1);
        fault("A=" + "[]".repeat(121) + ";", 4, 242);
        due(mind("A=" + "[x]".repeat(60) + ";"), 1);
        fault("A=" + "[x]".repeat(60) + "x;", 4, 182);
        // In all rules together; a rule's own name and other signs don't count.
        due(mind("B=" + "x|".repeat(60) + ";A=" + "y|".repeat(60) + ";C=|;"), 3);
        fault("B=" + "x|".repeat(60) + ";A=" + "y|".repeat(60) + ";C=|z;", 4, 249);
    }

    // ---- VI: faults

    private void placesOfTokens() {
        edge("VI", "KIND and PLACE (a TOKEN's first byte; the text's length at its end)");
        fault("  ;", 1, 2);
        fault("A=  abcdefghijklm", 1, 4);
        fault("A", 1, 1);
        fault("A \n", 1, 3);
        fault("A=x  ", 1, 5);
        fault("A=" + " ".repeat(397) + "x", 1, 400);
        fault(" ".repeat(399) + "x", 1, 399);
        due(mind(" ".repeat(400)), 0);
    }

    private void firstFaultComeTo() {
        edge("VI", "the first come to as TOKENS are read one by one, of one TOKEN the least KIND");
        fault("A=A;A=;", 3, 2);
        fault("A=;A=A;", 2, 3);
        fault("A=[[[[[A", 4, 6);
        fault("A=A[[[[[", 3, 2);
        fault("A=];A=", 1, 2);
        // 1 ahead of 4, 3 ahead of 4, at one token.
        String full = "B=" + "x ".repeat(120);
        fault(full + "abcdefghijklm;", 1, 242);
        fault(full + "];", 1, 242);
        fault(full + "A;", 3, 242);
        fault(full + "B;", 3, 242);
        fault(full + "C;", 4, 242);
        fault(full + "[", 4, 242);
        fault(full + "=", 1, 242);
        due(mind(full + ";"), 1);
        due(mind(full + "|;"), 1);
        fault(full, 1, 242);
    }

    /** Whether a token can stand behind a text's begin: a byte that is none stands behind it. */
    private void goesOn(String begin, String good) {
        for (String token : texts("H", "y", "=", "|", ";", "[", "]")) {
            boolean isGood = good.indexOf(token) >= 0;
            fault(begin + " " + token + " ?", 1, begin.length() + (isGood ? 3 : 1));
        }
        if (good.indexOf("end") >= 0) {
            due(mind(begin), Math.min(begin.length(), 1));
        } else {
            fault(begin, 1, begin.length());
        }
    }

    private void noTextGoesOn() {
        edge("VI", "1 SYNTAX: a TOKEN (or byte that is none, a WORD of 13 letters) with which no text goes on");
        goesOn("", "H, end");
        goesOn("A", "=");
        for (String row : texts("A=", "A=x", "A=B", "A=|", "A=[]")) {
            goesOn(row, "H, y, |, ;, [");
        }
        begin("term VI (no text goes on)");
        goesOn("A=;", "H, end");
        for (String open : texts("A=[", "A=[x", "A=[B", "A=[|", "A=[[]")) {
            goesOn(open, "H, y, |, [, ]");
        }
        due(mind("A=abcdefghijkl;"), 1);
        fault("A=abcdefghijklm;", 1, 2);
        fault("abcdefghijklm", 1, 0);
    }

    private void secondRule() {
        edge("VI", "2 TWICE: a second rule of a NAME, at it");
        fault("A=;A", 2, 3);
        fault("A=; \nA=;", 2, 5);
        fault("A=;A A", 2, 3);
        fault("B=;A=B;B=;", 2, 7);
        // In a row it may stand as often as wanted; without a = it is no rule yet.
        due(mind("A=BB|B[B];B=;"), 2);
        fault("AA", 1, 1);
    }

    private void notALaterLetter() {
        edge("VI", "3 ORDER: a NAME in a row that isn't a later letter");
        fault("B=A", 3, 2);
        fault("B=B", 3, 2);
        due(mind("B=C;"), 1);
        fault("B=C|x[y B]", 3, 8);
        fault("H=H", 3, 2);
        fault("H=G", 3, 2);
        due(mind("G=H;"), 1);
    }

    private void roomOfItems() {
        edge("VI", "4 ROOM: the 121st item or [; a [ within four others that are open");
        due(mind("A=[[[[]]]];"), 1);
        fault("A=[[[[[", 4, 6);
        fault("A=[[[[ x | [", 4, 11);
        due(mind("A=[[[[][]][[]]]];"), 1);
        due(mind("A=[[[[x]]]][[[[x]]]];B=[[[[x]]]];"), 2);
        fault("A=[[[[]]]];B=[[[[[", 4, 17);
        fault("A=" + "x|".repeat(119) + "[]x;", 4, 242);
        due(mind("A=" + "x|".repeat(119) + "[];"), 1);
        fault("A=" + "x|".repeat(116) + "[[[[[", 4, 238);
        fault("A=" + "x|".repeat(117) + "[[[[", 4, 239);
    }

    // ---- VI: questions made

    private void justThoseCues() {
        edge("VI", "of all MANNERLY questions whose CUES (of WORDS as they are) are just those of it in their order");
        nameCues("a", "b");
        due(mind("A=a b|b a|a|x a y;"), 1);
        due(makeOf("AB"), 2);
        dueText(madeText(), "a b");
        due(makeOf("BA"), 2);
        dueText(madeText(), "b a");
        due(makeOf("A"), 1);
        due(makeOf("B"), FULL);
        due(makeOf("AA"), FULL);
        due(makeOf("ABA"), FULL);
        due(makeOf(""), FULL);
        // Words as they are now.
        due(name(0, "y"), 1);
        due(makeOf("A"), 3);
        dueText(madeText(), "x a y");
        due(makeOf(""), 1);
        dueText(madeText(), "a");
    }

    private void fewestWords() {
        edge("VI", "those with the fewest WORDS");
        nameCues("q");
        due(mind("A=a a q|z q|a a a q;"), 1);
        due(makeOf("A"), 2);
        dueText(madeText(), "z q");
        due(mind("A=a|;"), 1);
        due(makeOf(""), 0);
        dueText(madeText(), "");
        due(mind("A=[a]q[a][q];"), 1);
        due(makeOf("A"), 1);
        due(makeOf("AA"), 2);
        dueText(madeText(), "q q");
    }

    private void firstUnlikeWord() {
        edge("VI", "(the lesser first byte that is unlike, a begin ahead of the longer)");
        due(mind("A=b a|a z|a b;"), 1);
        due(makeOf(""), 2);
        dueText(madeText(), "a b");
        due(mind("A=sop a|so z|sox a;"), 1);
        due(makeOf(""), 2);
        dueText(madeText(), "so z");
        due(mind("A=abcdefghijkl|abcdefghijkk|b;"), 1);
        due(makeOf(""), 1);
        dueText(madeText(), "abcdefghijkk");
        due(mind("A=ab|aa z|b;"), 1);
        due(makeOf(""), 1);
        dueText(madeText(), "ab");
        // Unlike at the last word alone.
        due(mind("A=x x z|x x y|x x yy;"), 1);
        due(makeOf(""), 3);
        dueText(madeText(), "x x y");
    }

    private void sixtyWordsAtMost() {
        edge("VI", "At most 60 WORDS");
        due(mind("A=" + "x ".repeat(60) + ";"), 1);
        due(makeOf(""), 60);
        due(x.made(118), 'x');
        due(x.made(119), NONE);
        due(mind("A=" + "x ".repeat(61) + ";"), 1);
        due(makeOf(""), FULL);
        due(mind("A=" + "x ".repeat(61) + "|" + "y ".repeat(59) + ";"), 1);
        due(makeOf(""), 59);
        due(x.made(0), 'y');
    }

    // ---- VII

    private void oddsInHundredths() {
        edge("VII", "of a CUE to be LOST (0 .. 30; 0 at first), to be heard as another one (0 .. 5 each; 0 at first); else it is KEPT");
        nameAllCues();
        haveThings(texts("A"), 1);
        due(ask("a"), 1);
        due(x.chance(0), 100);
        due(x.lost(0, 31), RANGE);
        due(x.lost(0, -1), RANGE);
        due(x.mistaken(0, 1, 6), RANGE);
        due(x.mistaken(0, 1, -1), RANGE);
        due(x.chance(0), 100);
        due(x.lost(0, 30), 0);
        due(x.chance(0), 70);
        for (int as = 1; as < 8; as++) {
            due(x.mistaken(0, as, 5), 0);
            due(x.chance(0), 70 - 5 * as);
        }
        due(ask("h"), 1);
        due(x.chance(0), 5);
        due(ask(""), 0);
        due(x.chance(0), 30);
        due(ask("a a"), 2);
        due(x.chance(0), 0);
        // What others are heard as is no matter of this one.
        due(ask("a"), 1);
        due(x.mistaken(1, 0, 5), 0);
        due(x.lost(1, 30), 0);
        due(x.chance(0), 35);
    }

    private void allWays() {
        edge("VII", "(each of its CUES apart from the others): the sum over all ways by which it comes of it");
        nameAllCues();
        haveThings(texts("AAB"), 1);
        due(x.lost(0, 10), 0);
        due(x.mistaken(1, 0, 5), 0);
        due(ask("a b"), 2);
        // Either A is lost.
        due(x.chance(0), 2 * 10 * 90 * 95);
        due(ask("a a"), 2);
        // An A is lost and B is heard as A; B itself is never lost.
        due(x.chance(0), 2 * 10 * 90 * 5);
        due(x.lost(1, 1), 0);
        due(x.chance(0), 2 * 10 * 90 * 5 + 90 * 90);
        due(ask("a"), 1);
        due(x.chance(0), 2 * 10 * 90 + 10 * 10 * 5);
        due(ask(""), 0);
        due(x.chance(0), 10 * 10);
    }

    private void overThePowerOfItsOwnCues() {
        edge("VII", "over 100 to the power of how many CUES it has");
        nameAllCues();
        haveThings(texts("A", "BB"), 1, 1);
        due(x.lost(0, 10), 0);
        due(x.lost(1, 10), 0);
        due(ask("b"), 1);
        // 2 times 10 times 90, over 10000: what is heard has one cue, the row has two.
        due(x.chance(1), 1800);
        due(x.mistaken(0, 1, 5), 0);
        due(x.chance(0), 5);
        // 5 over 100 is less than 1800 over 10000,
        due(x.likeliest(), 1);
        due(x.share(0), 18);
        due(x.share(1), 23);
        // but more than 2 times 2 times 98 over 10000, though 5 is less than 392.
        due(x.lost(1, 2), 10);
        due(x.chance(1), 392);
        due(x.likeliest(), 0);
        due(x.share(0), 125);
        due(x.share(1), 223);
    }

    private void greatestWeight() {
        edge("VII", "the THING of the greatest WEIGHT above 0 (of alike ones the least number)");
        nameAllCues();
        haveThings(texts("AB", "AC", "AD"), 5, 5, 6);
        due(ask("a"), 1);
        due(x.likeliest(), NONE);
        due(x.lost(1, 1), 0);
        due(x.likeliest(), 0);
        due(x.lost(2, 1), 0);
        due(x.likeliest(), 0);
        due(x.lost(2, 2), 1);
        due(x.likeliest(), 1);
        due(x.lost(3, 2), 0);
        due(x.likeliest(), 2);
        // Rows of other lengths by what they are over: 5 * 1 of 100 and 6 * 2 of 100 * 100.
        due(giveRow(2, "DDDD"), 4);
        due(x.likeliest(), 1);
    }

    private void likeTimesChance() {
        edge("VII", "WEIGHT of a THING for what is heard: LIKE times that CHANCE");
        nameAllCues();
        haveThings(texts("AB", "AC"), 9999, 1);
        due(ask("a"), 1);
        due(x.lost(1, 1), 0);
        due(x.lost(2, 30), 0);
        due(x.likeliest(), 0);
        due(x.share(0), 9999 / 3);
        due(x.share(1), (9999 + 30) / 3);
    }

    private void weightOverAll() {
        edge("VII", "its SHARE: its WEIGHT over that of all");
        nameAllCues();
        haveThings(texts("AB", "AC", "AAAAAA"), 2, 4, 9999);
        due(ask("a"), 1);
        due(x.share(0), 0);
        due(x.share(1), 0);
        due(x.lost(1, 10), 0);
        due(x.share(0), 1);
        due(x.share(1), 1);
        due(x.lost(2, 10), 0);
        due(x.share(0), 2);
        due(x.share(1), 3);
        due(x.lost(2, 5), 10);
        due(x.likeliest(), 0);
        due(x.share(0), 1);
        due(x.share(1), 2);
    }

    // ---- VIII

    private void partedInTwo() {
        edge("VIII", "the first 2 .. 7 THINGS are parted in two KINDS (each of one THING at least)");
        addThings(8, 1);
        due(x.inTwo(1), RANGE);
        due(x.inTwo(2), 4);
        due(x.kind(0), 0);
        due(x.kind(1), 1);
        due(x.inTwo(7), 14);
        due(x.inTwo(8), RANGE);
        // Never all in one kind, though that would be as good.
        due(x.inTwo(4), 8);
        due(x.kind(2), 0);
        due(x.kind(3), 1);
    }

    private void oneAndHowLong() {
        edge("VIII", "a first CUE tells the KIND, then the ROW of the THING within it: the least sum of LIKES times (1 and how long its ROW is)");
        due(x.thing(9999), 0);
        due(x.thing(1), 1);
        due(x.inTwo(2), 2 * 9999 + 2);
        due(x.thing(2), 2);
        // One first cue: two of one kind need two cues each; the two lightest ones.
        for (int k = 1; k < 4; k++) {
            due(x.first(k, false), 1);
        }
        due(x.inTwo(3), 2 * 9999 + 3 * 1 + 3 * 2);
        due(x.kind(0), 0);
        due(x.kind(1), 1);
        due(x.kind(2), 1);
    }

    private void rowsOfKinds() {
        edge("VIII", "ROWS of each KIND SHORTEST by themselves (as SHORTEST of just these: any CUES of 0 .. 3, at most 5)");
        addThings(7, 1);
        // Cue 3 first, behind it itself or 0, behind 0 nothing: 2 3 4 5 5 at the most for a kind.
        for (int k = 0; k < 3; k++) {
            due(x.first(k, false), 1);
        }
        for (int k = 1; k < 3; k++) {
            due(x.may(k, 3, false), 1);
        }
        for (int k = 0; k < 4; k++) {
            due(x.may(k, 0, false), 1);
        }
        due(x.shortest(5), 19);
        due(x.shortest(6), NONE);
        due(x.inTwo(6), 6 + 2 * (2 + 3 + 3));
        due(x.inTwo(7), 7 + (2 + 3 + 3) + (2 + 3 + 4 + 4));
        // One row alone for each kind.
        due(x.may(3, 3, false), 1);
        due(x.may(0, 3, false), 1);
        due(x.inTwo(2), 4);
        due(x.inTwo(3), NONE);
    }

    private void leastRowOfKinds() {
        edge("VIII", "Of partings alike the least row of KINDS (THING 0 is of KIND 0)");
        addThings(7, 5);
        // All have rows of one cue: four at most in a kind, the first four.
        due(x.inTwo(5), 50);
        for (int t = 0; t < 5; t++) {
            due(x.kind(t), t < 4 ? 0 : 1);
        }
        due(x.inTwo(7), 70);
        for (int t = 0; t < 7; t++) {
            due(x.kind(t), t < 4 ? 0 : 1);
        }
        due(x.inTwo(2), 20);
        due(x.kind(0), 0);
        due(x.kind(1), 1);
    }

    private void aNightMore() {
        edge("VIII", "AWAY: how many BOOKS would still FIT, if a THING's ROW were a NIGHT more, with the DIGITS of the BOOK now");
        haveThings(texts("AB", "CDEFGH"), 1, 1);
        due(x.away(0), 720);
        due(x.away(1), 2);
        due(tell("A 1"), 0);
        due(x.away(0), 0);
        due(x.misheard(1), 0);
        // A is told as 0 and as 1: one of these is wrong, and B is 1; so A is 0.
        due(x.away(0), 720);
        due(take("12345670"), 1);
        due(x.misheard(0), 1);
        due(x.away(0), 720);
        due(x.fits(), 5040);
    }

    private void atLeastSeven() {
        edge("VIII", "would tell the DIGITS of at least seven CUES; of as many the least set (bits)");
        haveThings(texts("ABCDEF", "BCDEFG", "H", "GH", "CDEFGH"), 1, 1, 1, 1, 1);
        // 0 and 1 tell seven, as 0 and 2 do, 1 and 2 and others: bits 0 and 1 are the least.
        due(x.fewest(), 2);
        due(x.few(), 3);
        due(giveRow(0, ""), 0);
        // BCDEFG and H: seven.
        due(x.fewest(), 2);
        due(x.few(), 2 | 4);
        due(giveRow(1, "CCCCCC"), 6);
        // C D E F G H are six alone.
        due(x.fewest(), NONE);
        due(giveRow(2, "BA"), 2);
        due(x.fewest(), 2);
        due(x.few(), 4 | 16);
    }

    private void asIfTheDigitsWereTrue() {
        edge("VIII", "told as NIGHTS with the DIGITS of the BOOK now, none MISHEARD, and by what NIGHTS there are (as if the DIGITS were true)");
        haveThings(texts("ABCDEF"), 1);
        due(x.fewest(), NONE);
        due(x.misheard(6), 0);
        // Digits that can't be true together are told all the same.
        due(tell("GG 01"), 0);
        due(x.fewest(), 1);
        due(x.few(), 1);
        due(tell("ABC 000"), 1);
        due(tell("DEF 000"), 2);
        due(x.fewest(), 0);
        due(x.few(), 0);
    }

    // ---- IX

    private int tellOn(int day, int from, String digits) {
        put(digits);
        return x.bookOn(day, from);
    }

    private void fiftyBooks() {
        edge("IX", "BOOKS BY DAYS, at most 50: on a day (0 .. 9999) it is told that from a day on (0 .. 9999) CUE k has DIGITS as told");
        due(tellOn(-1, 0, "76543210"), RANGE);
        due(tellOn(0, -1, "76543210"), RANGE);
        due(tellOn(0, 10000, "76543210"), RANGE);
        due(tellOn(0, 9999, "76543210"), 1);
        for (int n = 2; n <= 49; n++) {
            due(tellOn(n, 0, "01234567"), n);
        }
        due(tellOn(10000, 0, "76543210"), RANGE);
        due(tellOn(9999, 0, "12345670"), 50);
        due(tellOn(9999, 0, "76543210"), FULL);
        due(x.digitOn(0, 9999, 9999), 7);
        due(x.digitOn(0, 9998, 9999), 1);
        due(x.digitOn(0, 9998, 9998), 0);
    }

    private void neverFall() {
        edge("IX", "days of telling never fall");
        due(tellOn(7, 3, "76543210"), 1);
        due(tellOn(7, 2, "76543210"), 2);
        due(tellOn(6, 9, "76543210"), RANGE);
        due(tellOn(8, 1, "76543210"), 3);
        due(tellOn(7, 9, "76543210"), RANGE);
        due(tellOn(9999, 0, "76543210"), 4);
        due(tellOn(9998, 0, "76543210"), RANGE);
        due(tellOn(9999, 0, "76543210"), 5);
    }

    private void latestFirstDay() {
        edge("IX", "by those told by then whose first day isn't behind it that with the latest first day (of one day that told last); none: k");
        due(x.digitOn(5, 100, 100), 5);
        due(tellOn(10, 100, "12345670"), 1);
        due(tellOn(20, 50, "23456701"), 2);
        due(tellOn(30, 100, "34567012"), 3);
        int[][] dues = {{100, 9, 0}, {100, 10, 1}, {99, 10, 0}, {99, 20, 2}, {50, 20, 2}, {49, 20, 0}, {100, 20, 1},
            {100, 29, 1}, {100, 30, 3}, {9999, 9999, 3}, {0, 9999, 0}, {50, 19, 0}};
        for (int[] d : dues) {
            due(x.digitOn(0, d[0], d[1]), d[2]);
        }
        due(x.digitOn(7, 49, 9999), 7);
    }

    // ---- X

    private void hundredTurns() {
        edge("X", "TURNS, at most 100, numbered from 0");
        nameCues("a");
        haveThings(texts("A"), 1);
        due(ask("a"), 1);
        for (int i = 0; i < 100; i++) {
            due(x.turnOf(0), i);
        }
        due(x.turnOf(0), FULL);
        due(x.count(8), 100);
        due(x.shown(99, 99, 3), 99);
    }

    private void answersAsThingsWere() {
        edge("X", "the ANSWER is the LIKELIEST, as things are then (NONE: none)");
        nameAllCues();
        haveThings(texts("A", "BA"), 1, 9999);
        due(ask("b"), 1);
        due(x.turnOf(0), 0);
        due(x.shown(0, 0, 1), NONE);
        due(ask("a"), 1);
        due(x.turnOf(1), 1);
        due(x.shown(1, 1, 1), 0);
        due(x.lost(1, 30), 0);
        due(x.turnOf(1), 2);
        due(x.shown(2, 2, 1), 1);
        // Answers that were given stay.
        due(giveRow(0, ""), 0);
        due(giveRow(1, "B"), 1);
        due(x.shown(0, 2, 1), NONE);
        due(x.shown(1, 2, 1), 0);
        due(x.shown(2, 2, 1), 1);
        due(x.tally(2, 2), 1);
    }

    private void cuesThatWereHeard() {
        edge("X", "a THING that was held up, and the CUES that were heard (those of the latest ask())");
        nameAllCues();
        haveThings(texts("A", "B"), 1, 1);
        due(x.turnOf(0), STATE);
        due(ask("a"), 1);
        due(ask("\t"), NONE);
        due(x.turnOf(1), 0);
        due(x.shown(0, 0, 0), 1);
        due(x.shown(0, 0, 1), 0);
        due(ask("b"), 1);
        due(x.turnOf(1), 1);
        due(x.shown(1, 1, 1), 1);
        due(x.shown(0, 1, 1), 0);
    }

    private void putRightWithTheSame() {
        edge("X", "PUT RIGHT: it was another THING that was held up");
        nameAllCues();
        haveThings(texts("A", "B"), 1, 1);
        due(ask("a"), 1);
        due(x.turnOf(1), 0);
        due(x.putRight(0, 0), 1);
        due(x.shown(0, 0, 0), 1);
        due(x.shown(0, 1, 0), 0);
        // Once more with what is known: a step, too, that changes nothing.
        due(x.putRight(0, 0), 2);
        due(x.shown(0, 2, 0), 0);
        due(x.tally(2, 0), 1);
        due(x.tally(2, 10), 1);
    }

    private void stepsAtMost() {
        edge("X", "(as often as wanted; each is a step, as each TURN is, numbered from 0, at most 300)");
        nameCues("a");
        haveThings(texts("A", "B"), 1, 1);
        due(ask("a"), 1);
        due(x.turnOf(0), 0);
        due(x.turnOf(0), 1);
        for (int step = 2; step < 300; step++) {
            due(x.putRight(step % 2, 1), step);
        }
        due(x.putRight(0, 0), FULL);
        due(x.turnOf(0), FULL);
        due(x.count(9), 300);
        due(x.count(8), 2);
        due(x.shown(0, 0, 0), 0);
        due(x.shown(0, 1, 0), 0);
        due(x.shown(0, 2, 0), 1);
        due(x.shown(1, 2, 0), 0);
        due(x.shown(1, 299, 0), 1);
        due(x.shown(1, 300, 0), NO_SUCH);
    }

    private void toldLatestByThen() {
        edge("X", "As known at a step: the THING told latest by then");
        nameCues("a");
        haveThings(texts("A", "B", "C"), 1, 1, 1);
        due(ask("a"), 1);
        due(x.turnOf(2), 0);
        due(x.putRight(0, 1), 1);
        due(x.turnOf(0), 1);
        due(x.putRight(0, 0), 3);
        int[] things = {2, 1, 1, 0};
        for (int step = 0; step < 4; step++) {
            due(x.shown(0, step, 0), things[step]);
        }
        due(x.shown(1, 1, 0), NO_SUCH);
        due(x.shown(1, 2, 0), 0);
        due(x.shown(0, 4, 0), NO_SUCH);
        due(x.shown(0, -1, 0), NO_SUCH);
    }

    private void rightAnswers() {
        edge("X", "RIGHT: the ANSWER is the THING");
        nameCues("a");
        haveThings(texts("A", "B"), 1, 1);
        due(ask("a"), 1);
        due(x.turnOf(0), 0);
        due(x.turnOf(1), 1);
        due(ask(""), 0);
        // Without an answer it is never right, whatever the thing is.
        due(x.turnOf(0), 2);
        due(x.shown(0, 2, 2), 1);
        due(x.shown(1, 2, 2), 0);
        due(x.shown(2, 2, 2), 0);
        due(x.putRight(1, 0), 3);
        due(x.shown(1, 2, 2), 0);
        due(x.shown(1, 3, 2), 1);
        due(x.tally(2, 1), 1);
        due(x.tally(3, 1), 2);
    }

    private void heldUp() {
        edge("X", "TALLY of a THING: in how many TURNS it was held up");
        nameCues("a");
        haveThings(texts("A", "B"), 1, 1);
        due(ask("a"), 1);
        for (int i = 0; i < 100; i++) {
            due(x.turnOf(1), i);
        }
        due(x.tally(99, 11), 100);
        due(x.tally(99, 10), 0);
        due(x.tally(0, 11), 1);
        due(x.putRight(50, 0), 100);
        // Each turn is counted once, however often it is put right.
        due(x.putRight(50, 0), 101);
        due(x.tally(101, 11), 99);
        due(x.tally(101, 10), 1);
    }

    private void regretWithTallies() {
        edge("X", "the COST of the ROWS of the first n THINGS as they are, with TALLIES in place of LIKES, less the least such COST (as SHORTEST, THINGS of TALLY 0 with ROWS, too)");
        nameCues("a");
        haveThings(texts("AA", "AB", "H"), 9999, 1, 1);
        // One first cue: alone it is a row of one, beside another one each needs two.
        for (int k = 1; k < 4; k++) {
            due(x.first(k, false), 1);
        }
        due(x.regret(2), 0);
        due(ask("a"), 1);
        due(x.turnOf(0), 0);
        due(x.regret(1), 2 - 1);
        due(x.regret(2), 2 - 2);
        due(x.turnOf(2), 1);
        // A row as it is may have a cue beyond 3: it costs less than the least of 0 .. 3.
        due(x.regret(3), 2 + 1 - 4);
    }
}
