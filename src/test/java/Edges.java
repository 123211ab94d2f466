import java.lang.reflect.Method;
import java.lang.reflect.Modifier;

/**
 * What the tests of boundaries share. Each method without parameters is the test of one sentence of
 * the document, which it names first of all; what is on either side of its boundary stands in it.
 */
abstract class Edges extends Bench {
    static final int NONE = StagePair.NONE;
    static final int RANGE = StagePair.RANGE;
    static final int FULL = StagePair.FULL;
    static final int STATE = StagePair.STATE;
    static final int LOW = Integer.MIN_VALUE;
    static final int HIGH = Integer.MAX_VALUE;

    private int sentences = 0;

    /** A new room for a sentence (as it stands in the document) of a promise 1 .. 54 or a term I .. X. */
    StagePair edge(String place, String sentence) {
        sentences++;
        return begin((place.matches("\\d+") ? "promise " : "term ") + place + " (" + sentence + ")");
    }

    /** Runs every test of a class of these. */
    final void runAll() throws Exception {
        for (Method m : getClass().getDeclaredMethods()) {
            boolean isTest = m.getParameterCount() == 0 && m.getReturnType() == void.class
                && !Modifier.isStatic(m.getModifiers()) && !m.isSynthetic();
            if (isTest) {
                int before = sentences;
                m.setAccessible(true);
                m.invoke(this);
                if (sentences != before + 1) {
                    throw new IllegalStateException(m.getName() + " names " + (sentences - before) + " sentences");
                }
            }
        }
        finish(getClass().getName() + ", " + sentences + " sentences");
    }

    static int[] ints(int... all) {
        return all;
    }

    static String[] texts(String... all) {
        return all;
    }

    void dueEmptyTape() {
        due(x.count(3), 0);
    }

    /** The digits of all cues by the book now. */
    void dueBook(String digits) {
        for (int k = 0; k < 8; k++) {
            due(x.digit(k), digits.charAt(k) - '0');
        }
    }

    /** The word of a cue, whole. */
    void dueWord(int k, String word) {
        for (int i = 0; i < word.length(); i++) {
            due(x.letter(k, i), word.charAt(i));
        }
        due(x.letter(k, word.length()), NONE);
    }

    /** The row of a thing, whole. */
    void dueRow(int t, String row) {
        due(x.about(t, 1), row.length());
        for (int i = 0; i < row.length(); i++) {
            due(x.about(t, 10 + i), row.charAt(i) - 'A');
        }
        due(x.about(t, 10 + row.length()), NONE);
    }

    /** The cues of the latest question, whole. */
    void dueAsked(String cues) {
        due(x.count(5), cues.length());
        for (int i = 0; i < cues.length(); i++) {
            due(x.asked(10 + i), cues.charAt(i) - 'A');
        }
        due(x.asked(10 + cues.length()), NONE);
    }

    void nameAllCues() {
        nameCues("a", "b", "c", "d", "e", "f", "g", "h");
    }

    int name(int k, String word) {
        put(word);
        return x.word(k);
    }

    int giveRow(int t, String row) {
        put(row);
        return x.row(t);
    }

    int take(String book) {
        put(book);
        return x.book();
    }

    void addThings(int n, int like) {
        for (int t = 0; t < n; t++) {
            x.thing(like);
        }
        called(n);
    }
}
