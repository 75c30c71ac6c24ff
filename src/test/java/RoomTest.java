import java.lang.management.ManagementFactory;

/** What an object and its 512 calls take of the room that all calls of a run live in. */
public final class RoomTest {
    private static final com.sun.management.ThreadMXBean THREADS =
        (com.sun.management.ThreadMXBean) ManagementFactory.getThreadMXBean();
    private static final int CALLS = 512;
    private static long answers;

    private RoomTest() {
    }

    public static void main(String[] args) {
        goThrough(new TillPipe());
        long before = taken();
        TillPipe x = new TillPipe();
        long made = taken() - before;
        before = taken();
        goThrough(x);
        long called = taken() - before;
        System.out.println("an object takes " + made + " bytes, its calls " + called + " (" + answers + ")");
        // 7.3 million elements are some 29 million bytes: a run may well make a hundred objects.
        if (made > 120_000 || called > 20_000) {
            System.out.println("too much");
            System.exit(1);
        }
    }

    private static long taken() {
        return THREADS.getThreadAllocatedBytes(Thread.currentThread().getId());
    }

    private static void tell(TillPipe x, int sort, int a, int b, int c) {
        x.end(0);
        x.feed(a, b, c, 0, 0);
        x.text(sort);
    }

    /** Texts over and over, then the calls that look at the most. */
    private static void goThrough(TillPipe x) {
        for (int i = 0; i < 20; i++) {
            tell(x, 0, 0x63312c32, 0x2c352c37, 0x3b703200);
            tell(x, 1, 0x343a6162, 0x63640000, 0);
            tell(x, 1, 0x323a6261, 0, 0);
            tell(x, 1, 0x333a6300, 0, 0);
            tell(x, 1, 0x313a6161, 0, 0);
            tell(x, 2, 0x793a763d, 0x313f743b, 0x793a6e00);
        }
        x.lay(0, 0);
        x.lay(1, 0);
        x.lay(0, 1);
        for (int i = 0; i < (CALLS - 363) / 12; i++) {
            answers += x.result(0, -1) + x.row(123) + x.aside(0) + x.most() + x.dawn(2, 0) + x.breaks(4)
                + x.helps(0) + x.spoils(0) + x.wise(0, 0) + x.chain() + x.worst(0, 0) + x.mean(0, 60, 20, 0);
        }
    }
}
