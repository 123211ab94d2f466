/** Promises 20 to 30: nights, books that fit, a new book, names. */
public final class SpiesAndNamesTest {
    private static final int NONE = StagePair.NONE;
    private static final int RANGE = StagePair.RANGE;
    private static final int FULL = StagePair.FULL;
    private static final int LOW = Integer.MIN_VALUE;
    private static final int HIGH = Integer.MAX_VALUE;

    private final Bench b = new Bench();

    public static void main(String[] args) {
        SpiesAndNamesTest t = new SpiesAndNamesTest();
        t.nights();
        t.misheard();
        t.fits();
        t.sure();
        t.renew();
        t.spelled();
        t.read();
        t.listed();
        t.coughs();
        t.b.finish("SpiesAndNamesTest");
    }

    private void nights() {
        StagePair x = b.begin(20);
        for (String none : new String[] {"", " ", "A", "A 01", "AB 0", "AB01", "AB  01", "I 0", "A 8", "a 0", "A\n0",
            "ABCDEFG 0123456", "A 0 ", " A 0", "@ 0", "A /"}) {
            b.due(b.tell(none), NONE);
            b.due(x.count(3), 0);
        }
        b.due(x.count(1), 0);
        b.due(b.tell("H 7"), 0);
        b.due(x.count(3), 0);
        b.due(b.tell("ABCDEF 012345"), 1);
        for (int n = 2; n < 40; n++) {
            b.due(b.tell("AA 00"), n);
        }
        b.due(b.tell("A 0"), FULL);
        b.due(x.count(3), 0);
        b.due(b.tell("A 9"), NONE);
        b.due(x.count(1), 40);
        b.due(x.fits(), 1);
    }

    private void misheard() {
        StagePair x = b.begin(21);
        b.due(x.misheard(6), 0);
        for (int n : new int[] {-1, 7, LOW, HIGH}) {
            b.due(x.misheard(n), RANGE);
        }
        b.due(x.count(4), 6);
        b.due(x.misheard(0), 6);
        b.due(x.misheard(3), 0);
        b.due(x.misheard(3), 3);
    }

    private void fits() {
        StagePair x = b.begin(22);
        b.due(x.fits(), 40320);
        b.due(b.tell("A 5"), 0);
        b.due(x.fits(), 5040);
        // Two cues were told as one digit: one of them was misheard.
        b.due(b.tell("B 5"), 1);
        b.due(x.fits(), 0);
        x.misheard(1);
        b.due(x.fits(), 5040 + 5040);
        x.misheard(2);
        b.due(x.fits(), 40320);
        // Each telling counts: A as 5 thrice.
        b.due(b.tell("AA 55"), 2);
        b.due(x.fits(), 5040);
        x.misheard(6);
        b.due(x.fits(), 40320);
        // One cue told as two digits.
        x = b.begin(22);
        b.due(b.tell("AA 01"), 0);
        b.due(x.fits(), 0);
        x.misheard(1);
        b.due(x.fits(), 2 * 5040);
        // Of eight true ones six may be wrong: all books with at least two as told.
        x = b.begin(22);
        b.due(b.tell("ABCD 0123"), 0);
        b.due(b.tell("EFGH 4567"), 1);
        b.due(x.fits(), 1);
        x.misheard(1);
        b.due(x.fits(), 1);
        x.misheard(2);
        b.due(x.fits(), 1 + 28);
        x.misheard(3);
        b.due(x.fits(), 1 + 28 + 56 * 2);
        x.misheard(4);
        b.due(x.fits(), 1 + 28 + 112 + 70 * 9);
        x.misheard(6);
        b.due(x.fits(), 1 + 28 + 112 + 630 + 56 * 44 + 28 * 265);
    }

    private void sure() {
        StagePair x = b.begin(23);
        for (int k : new int[] {-1, 8, LOW, HIGH}) {
            b.due(x.sure(k), RANGE);
        }
        b.due(x.sure(0), NONE);
        b.due(b.tell("CA 75"), 0);
        b.due(x.sure(0), 5);
        b.due(x.sure(2), 7);
        b.due(x.sure(1), NONE);
        x.misheard(1);
        b.due(x.sure(0), NONE);
        b.due(b.tell("C 7"), 1);
        b.due(x.sure(2), 7);
        b.due(x.sure(0), NONE);
        // No book fits: of none they are sure.
        x.misheard(0);
        b.due(b.tell("A 7"), 2);
        b.due(x.fits(), 0);
        b.due(x.sure(2), NONE);
        // The eighth digit is what is left.
        x = b.begin(23);
        b.due(b.tell("ABCD 7654"), 0);
        b.due(b.tell("EFG 321"), 1);
        b.due(x.sure(7), 0);
    }

    private void dueBook(String digits) {
        for (int k = 0; k < 8; k++) {
            b.due(b.x.digit(k), digits.charAt(k) - '0');
        }
    }

    private void renew() {
        StagePair x = b.begin(24);
        b.due(x.renew(), 0);
        dueBook("01234567");
        // Sure that A is 0: it changes with another cue; the least row of digits has 1 0.
        b.due(b.tell("A 0"), 0);
        b.due(x.renew(), 2);
        dueBook("10234567");
        b.due(x.renew(), 0);
        // Sure of A 0 and B 1 in the first book: they change with one another.
        x = b.begin(24);
        b.due(b.tell("AB 01"), 0);
        b.due(x.renew(), 2);
        dueBook("10234567");
        // A digit that is sure, but not had now, is kept away without a change.
        x = b.begin(24);
        b.due(b.tell("A 7"), 0);
        b.due(x.renew(), 0);
        dueBook("01234567");
        // Three are sure: of the two rings 3 5 1 and 5 1 3 the lesser one.
        x = b.begin(24);
        b.due(b.tell("BDF 135"), 0);
        b.due(x.renew(), 3);
        dueBook("03254167");
        // No book fits: nothing is sure.
        x = b.begin(24);
        b.due(b.tell("AA 01"), 0);
        b.due(x.renew(), 0);
        dueBook("01234567");
        // All are sure: each cue has another digit.
        x = b.begin(24);
        b.due(b.tell("ABCDEF 012345"), 0);
        b.due(b.tell("G 6"), 1);
        b.due(x.renew(), 8);
        dueBook("10325476");
        // Names are spelled by the new book.
        b.put("a");
        b.due(x.spell(), 2);
        b.due(x.spelled(0), 1);
    }

    private void spelled() {
        StagePair x = b.begin(25);
        for (String none : new String[] {"", "A", "a b", "a`", "{", "abc1", "a".repeat(41)}) {
            b.put(none);
            b.due(x.spell(), NONE);
            b.due(x.count(3), 0);
        }
        b.put("a".repeat(39) + "z");
        b.due(x.spell(), 80);
        b.due(x.count(3), 0);
        b.due(x.spelled(77), 0);
        b.due(x.spelled(78), 3);
        b.due(x.spelled(79), 1);

        x = b.begin(26);
        b.due(x.spelled(0), NONE);
        b.put("76543210");
        b.due(x.book(), 1);
        b.put("hiz");
        b.due(x.spell(), 6);
        // h: 0 7, i: 1 0, z: 3 1; digit d is cue 7 - d.
        int[] cues = {7, 0, 6, 7, 4, 6};
        for (int i = 0; i < 6; i++) {
            b.due(x.spelled(i), cues[i]);
        }
        for (int i : new int[] {-1, 6, LOW, HIGH}) {
            b.due(x.spelled(i), NONE);
        }
        b.put("1");
        b.due(x.spell(), NONE);
        b.due(x.spelled(0), 7);
        // What was spelled stays with another book.
        b.put("01234567");
        b.due(x.book(), 1);
        b.due(x.spelled(0), 7);
        b.put("a");
        b.due(x.spell(), 2);
        b.due(x.spelled(0), 0);
        b.due(x.spelled(2), NONE);
    }

    private void read() {
        StagePair x = b.begin(27);
        b.nameCues("a", "b", "c", "d", "e", "f", "g", "h");
        b.due(x.read(0), NONE);
        b.due(b.ask("d b d c a h"), 6);
        b.due(x.read(0), 'z');
        b.due(x.read(1), 'a' + 8 + 3);
        b.due(x.read(2), NONE);
        b.due(x.read(3), 'a' + 16);
        b.due(x.read(4), 'h');
        b.due(x.read(5), NONE);
        for (int i : new int[] {-1, 6, LOW, HIGH}) {
            b.due(x.read(i), NONE);
        }
        b.put("10234567");
        b.due(x.book(), 1);
        b.due(x.read(0), 'y');
        b.due(b.ask("a"), 1);
        b.due(x.read(0), NONE);
        b.due(b.ask(""), 0);
        b.due(x.read(0), NONE);
        b.due(b.ask("e a"), 2);
        b.due(x.read(0), NONE);
    }

    private void listed() {
        StagePair x = b.begin(28);
        for (String none : new String[] {"", "A", "a b", "abcdefghijklm", "a1"}) {
            b.put(none);
            b.due(x.list(), NONE);
            b.due(x.count(3), 0);
        }
        for (int i = 0; i < 20; i++) {
            b.put("abcdefghijkl".substring(0, 1 + i % 12));
            b.due(x.list(), i);
        }
        b.put("a");
        b.due(x.list(), FULL);
        b.due(x.count(3), 0);
        b.put("A");
        b.due(x.list(), NONE);
        b.due(x.count(6), 20);
    }

    private void coughs() {
        StagePair x = b.begin(29);
        b.nameCues("a", "b", "c", "d", "e", "f", "g", "h");
        b.put("az");
        b.due(x.list(), 0);
        b.put("i");
        b.due(x.list(), 1);
        b.due(x.coughs(0), NONE);
        b.due(x.nearest(), NONE);
        // az: 0 0 3 1; i: 1 0.
        String[] questions = {"a a d b", "a a d", "a d b", "d b", "d", "", "b b b b", "e e e", "b a", "d b a a", "a a a d b"};
        int[] first = {0, 1, 1, 2, 3, 4, 3, 4, 3, 4, NONE};
        int[] second = {NONE, NONE, NONE, 2, 2, 2, NONE, NONE, 0, NONE, NONE};
        int[] near = {0, 0, 0, 0, 1, 1, 0, 0, 1, 0, NONE};
        for (int i = 0; i < questions.length; i++) {
            b.due(b.ask(questions[i]), questions[i].replace(" ", "").length());
            b.due(x.coughs(0), first[i]);
            b.due(x.coughs(1), second[i]);
            b.due(x.nearest(), near[i]);
        }
        for (int i : new int[] {-1, 2, LOW, HIGH}) {
            b.due(x.coughs(i), NONE);
        }
        // As spelled now: with another book the same cues are another name.
        b.due(b.ask("b b"), 2);
        b.due(x.coughs(1), 1);
        b.put("10234567");
        b.due(x.book(), 1);
        b.due(x.coughs(1), 1);
        b.due(x.coughs(0), 2);
        b.due(b.ask("a b"), 2);
        b.due(x.coughs(1), 0);
        b.due(b.ask("\t"), NONE);
        b.due(x.coughs(1), 0);

        x = b.begin(30);
        b.nameCues("a", "b");
        b.due(b.ask("a a"), 2);
        b.due(x.nearest(), NONE);
        for (String name : new String[] {"i", "b", "b", "a", "a"}) {
            b.put(name);
            x.list();
        }
        b.due(x.nearest(), 3);
        b.due(b.ask("b b"), 2);
        b.due(x.nearest(), 0);
        b.due(b.ask("a b"), 2);
        b.due(x.nearest(), 1);
        b.due(b.ask("a b a"), 3);
        b.due(x.nearest(), NONE);
    }
}
