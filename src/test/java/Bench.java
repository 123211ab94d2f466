/** What the tests of single promises share: a room, texts on its tape, and answers that are due. */
class Bench {
    /** What is promised of an object holds for so many calls. */
    private static final int MOST_CALLS = 512;

    private String where = "";
    private int wrong = 0;
    private int checked = 0;
    private int calls = 0;
    StagePair x;

    /** A new room for a promise. */
    StagePair begin(int promise) {
        return begin("promise " + promise);
    }

    /** A new room for what is told so if an answer is wrong. */
    StagePair begin(String what) {
        where = what;
        calls = 0;
        x = new StagePair();
        return x;
    }

    void due(long got, long want) {
        checked++;
        called(1);
        if (got != want) {
            say("answered " + got + ", due is " + want);
        }
    }

    /** Says what is wrong, with the line of the test itself, not of what helps it. */
    void say(String fault) {
        wrong++;
        int line = StackWalker.getInstance().walk(frames -> frames
            .filter(f -> !f.getClassName().equals("Bench") && !f.getClassName().equals("Edges"))
            .filter(f -> !f.getMethodName().equals("main"))
            .reduce((one, outer) -> outer).get().getLineNumber());
        System.out.println(where + ", line " + line + ": " + fault);
    }

    /** Counts calls of the room: beyond the 512th a test would ask for what is free. */
    void called(int times) {
        boolean wasWithin = calls <= MOST_CALLS;
        calls += times;
        if (wasWithin && calls > MOST_CALLS) {
            say("more than " + MOST_CALLS + " calls of one object");
        }
    }

    /** The tape has this text alone. */
    Bench put(String text) {
        x.end(0);
        for (int i = 0; i < text.length(); i += 20) {
            int[] five = new int[5];
            for (int j = 0; j < 20; j++) {
                int at = i + j;
                five[j / 4] = five[j / 4] << 8 | (at < text.length() ? text.charAt(at) : 32);
            }
            x.feed(five[0], five[1], five[2], five[3], five[4]);
            called(1);
        }
        called(1);
        due(x.end(text.length()), text.length());
        return this;
    }

    /** The words w0, w1 .. in letters: cue k is the k-th of these. */
    void nameCues(String... words) {
        for (int k = 0; k < words.length; k++) {
            put(words[k]);
            due(x.word(k), words[k].length());
        }
    }

    /** Things with these rows (an empty one: none), their likes as told. */
    void haveThings(String[] rows, int... likes) {
        for (int t = 0; t < rows.length; t++) {
            due(x.thing(likes[t]), t);
            put(rows[t]);
            due(x.row(t), rows[t].length());
        }
    }

    int ask(String question) {
        put(question);
        return x.ask();
    }

    int tell(String night) {
        put(night);
        return x.night();
    }

    int mind(String manners) {
        put(manners);
        return x.manners();
    }

    String madeText() {
        StringBuilder s = new StringBuilder();
        for (int i = 0; i < 1000; i++) {
            int b = x.made(i);
            called(1);
            if (b < 0) {
                break;
            }
            s.append((char) b);
        }
        return s.toString();
    }

    void dueText(String got, String want) {
        checked++;
        if (!got.equals(want)) {
            say("made '" + got + "', due is '" + want + "'");
        }
    }

    void finish(String name) {
        System.out.println(name + ": " + checked + " answers, " + wrong + " wrong");
        if (wrong > 0) {
            System.exit(1);
        }
    }
}
