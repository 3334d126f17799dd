import java.lang.management.ManagementFactory;

/** What calls make is little: all calls of a run live in one room. */
public final class RoomTest {
    private static final int CALLS = 512;
    /** A formula read, its rows of 60 numbers with it, takes some 3,000 bytes. */
    private static final long MOST_READING = 4000L * CALLS;
    private static final long MOST_ASKING = 10_000;
    private static final Expect EXPECT = new Expect("RoomTest");

    private static final com.sun.management.ThreadMXBean THREADS =
        (com.sun.management.ThreadMXBean) ManagementFactory.getThreadMXBean();

    public static void main(String[] args) {
        // the first run loads classes, which takes room of its own
        askAll();
        readMany();
        long before = taken();
        readMany();
        long reading = taken() - before;
        EXPECT.holds("readings take " + reading + " bytes", reading < MOST_READING);
        long asking = askAll();
        EXPECT.holds("dear calls take " + asking + " bytes", asking < MOST_ASKING);
        EXPECT.finish();
    }

    private static long taken() {
        return THREADS.getThreadAllocatedBytes(Thread.currentThread().getId());
    }

    private static SpanKeeper withLongest() {
        SpanKeeper keeper = new SpanKeeper();
        for (int source = 0; source < 6; source++) {
            keeper.set(source, 1, 20);
        }
        for (int i = 0; i < 59; i++) {
            keeper.feed(i % 2 == 1 ? "+-*".charAt(i % 3) : 'a' + i / 2 % 6);
        }
        EXPECT.due("the longest is read", keeper.formula(), 0);
        return keeper;
    }

    private static void readMany() {
        SpanKeeper keeper = new SpanKeeper();
        for (int call = 0; call < CALLS; call++) {
            for (int i = 0; i < 59; i++) {
                keeper.feed(i % 2 == 1 ? '+' : 'a' + i / 2 % 6);
            }
            EXPECT.due("read", keeper.formula(), 0);
            keeper.drop();
        }
    }

    private static long askAll() {
        SpanKeeper keeper = withLongest();
        keeper.list(0, 8);
        long before = taken();
        long sum = 0;
        for (int call = 0; call < CALLS / 8; call++) {
            sum += keeper.span(0, 2) + keeper.best(0, 0) + keeper.again(0, 0, 0) + keeper.fits(0, 0, 0, 0);
            sum += keeper.odds(0, 1, 30, 0, 9, 0) + keeper.corner(0, 0) + keeper.tight(0, 0) + keeper.widest(0);
            sum += keeper.judge(0) + keeper.image() + keeper.undo() + keeper.count(3) + keeper.ends(0);
        }
        long after = taken();
        EXPECT.holds("they answer something", sum != 0);
        return after - before;
    }
}
