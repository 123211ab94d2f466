import java.lang.management.ManagementFactory;

/**
 * All calls of one run live in one room: what an object needs is made in its constructor, the
 * makers' rows at the first make(), and nothing in any later call. Nor does any call throw,
 * whatever its arguments, nor last long.
 */
public final class RoomTest {
    private static final int[] ODD = {0, 1, -1, 7, 8, 9, 10, 39, 40, 60, 61, 500, Integer.MAX_VALUE, Integer.MIN_VALUE,
        Integer.MIN_VALUE + 9, Integer.MAX_VALUE - 9};
    /** Elements of four bytes: the constructor's, and the maker's. */
    private static final long MOST_BYTES = 4 * 40000;

    private static int wrong = 0;
    private static long sum = 0;

    public static void main(String[] args) {
        com.sun.management.ThreadMXBean bean =
            (com.sun.management.ThreadMXBean) ManagementFactory.getThreadMXBean();
        long id = Thread.currentThread().getId();
        useAll(new StagePair());
        long before = bean.getThreadAllocatedBytes(id);
        StagePair x = new StagePair();
        x.make();
        long made = bean.getThreadAllocatedBytes(id) - before;
        need(made <= MOST_BYTES, "a room takes " + made + " bytes");
        before = bean.getThreadAllocatedBytes(id);
        useAll(x);
        long used = bean.getThreadAllocatedBytes(id) - before;
        // What the meter itself takes is below this; one row in one call of many would be above.
        need(used <= 4096, "calls take " + used + " bytes");
        long start = System.nanoTime();
        heavy();
        long millis = (System.nanoTime() - start) / 1000000;
        need(millis < 20000, "the dearest calls last " + millis + " ms");
        System.out.println("RoomTest: " + wrong + " wrong (" + made + " bytes a room, " + sum % 10 + ")");
        if (wrong > 0) {
            System.exit(1);
        }
    }

    private static void need(boolean good, String what) {
        if (!good) {
            wrong++;
            System.out.println(what);
        }
    }

    private static void useAll(StagePair x) {
        for (int round = 0; round < 3; round++) {
            for (int a : ODD) {
                one(x, a);
                for (int c : ODD) {
                    two(x, a, c);
                }
            }
            fill(x, round);
        }
    }

    private static void feed(StagePair x, int a, int b, int size) {
        x.end(0);
        x.feed(a, b, a, b, a);
        x.end(size);
    }

    private static void fill(StagePair x, int round) {
        for (int k = 0; k < 8; k++) {
            feed(x, 0x61616161 + k, 0x62626262, 4);
            sum += x.word(k);
            sum += x.thing(5 + k);
            feed(x, 0x41424344 + (k << 24), 0x45464748, 1 + round);
            sum += x.row(k);
        }
        feed(x, 0x41422030, 0x31202020, 5);
        sum += x.night();
        // A=aaaaa;
        feed(x, 0x413d6161, 0x6161613b, 8);
        sum += x.manners();
        feed(x, 0x61616161, 0x20206161, 4);
        sum += x.ask();
        feed(x, 0x37363534, 0x33323130, 8);
        sum += x.bookOn(5, 5);
        feed(x, 0x37363534, 0x33323130, 8);
        sum += x.book();
        feed(x, 0x61626364, 0x33323130, 4);
        sum += x.list();
        feed(x, 0x61626364, 0x33323130, 4);
        sum += x.spell();
    }

    private static void one(StagePair x, int a) {
        sum += x.end(a) + x.word(a) + x.first(a, false) + x.first(a, true) + x.digit(a) + x.asked(a) + x.thing(a);
        sum += x.row(a) + x.shortest(a) + x.length(a) + x.misheard(a) + x.sure(a) + x.spelled(a) + x.read(a);
        sum += x.coughs(a) + x.fault(a) + x.questions(a) + x.made(a) + x.chance(a) + x.share(a) + x.inTwo(a);
        sum += x.kind(a) + x.away(a) + x.turnOf(a) + x.regret(a) + x.count(a);
        sum += x.book() + x.ask() + x.cost() + x.means() + x.heard() + x.night() + x.fits() + x.renew() + x.spell();
        sum += x.list() + x.nearest() + x.mannerly() + x.make() + x.likeliest() + x.fewest() + x.few();
        sum += x.feed(a, a, a, a, a);
        sum += x.manners();
    }

    private static void two(StagePair x, int a, int c) {
        sum += x.letter(a, c) + x.may(a, c, false) + x.may(a, c, true) + x.about(a, c) + x.lost(a, c);
        sum += x.mistaken(a, c, 3) + x.mistaken(1, a, c) + x.bookOn(a, c) + x.digitOn(a, c, 5) + x.digitOn(1, a, c);
        sum += x.putRight(a, c) + x.shown(a, c, 0) + x.shown(0, a, c) + x.tally(a, c);
    }

    /** The dearest calls, each as often as an object can be used, on new rules each time. */
    private static void heavy() {
        StagePair x = new StagePair();
        for (int t = 0; t < 7; t++) {
            x.thing(100 + t);
        }
        for (int i = 0; i < 160; i++) {
            sum += x.may(i % 3, i / 3 % 4, i % 2 == 0);
            sum += x.inTwo(7);
            sum += x.shortest(7);
        }
        Bench b = new Bench();
        b.begin(0);
        b.nameCues("a");
        StringBuilder s = new StringBuilder("A=B");
        for (char name = 'B'; name < 'H'; name++) {
            s.append(";").append(name).append("=");
            for (int i = 0; i < 9; i++) {
                s.append("[").append((char) (name + 1)).append("]");
            }
        }
        b.due(b.mind(s.append(";H=a|b;").toString()), 8);
        for (int i = 0; i < 15; i++) {
            b.put("AAAAAA");
            b.due(b.x.make(), 6);
            b.put("a ".repeat(60));
            b.due(b.x.mannerly(), 1);
            b.due(b.x.questions(60), StagePair.FULL);
        }
        b.finish("RoomTest, the dearest calls");
    }
}
