import java.lang.reflect.InvocationTargetException;
import java.lang.reflect.Method;
import java.util.ArrayList;
import java.util.Arrays;
import java.util.Comparator;
import java.util.List;
import java.util.NoSuchElementException;
import java.util.TreeSet;

/**
 * What the tests of boundary cases share. A test is a method of its own, named p, the promise's number
 * in two digits, _ and what holds; runAll runs them and wants at least one for each promise it is told.
 */
abstract class Edges {
    static final int NONE = -1;
    static final int HIDDEN = -2;
    static final int SHOP = 0;
    static final int CUSTOMER = 1;
    static final int RULE = 2;
    private static final String NAME = "p[0-9]{2}_.*";
    private static final int NO_VALUE = -99;

    interface Made {
        TillPipe make();
    }

    interface Call {
        long on(TillPipe x);
    }

    private String running = "";
    private boolean wrong;

    final void runAll(int... promises) {
        Method[] tests = Arrays.stream(getClass().getDeclaredMethods())
            .filter(m -> m.getName().matches(NAME)).sorted(Comparator.comparing(Method::getName)).toArray(Method[]::new);
        TreeSet<Integer> seen = new TreeSet<>();
        int failed = 0;
        for (Method test : tests) {
            running = test.getName();
            wrong = false;
            seen.add(Integer.parseInt(running.substring(1, 3)));
            run(test);
            failed += wrong ? 1 : 0;
        }
        for (int promise : promises) {
            if (!seen.contains(promise)) {
                failed++;
                System.out.println("no test of promise " + promise);
            }
        }
        System.out.println(tests.length - failed + " passed, " + failed + " failed");
        System.exit(failed == 0 ? 0 : 1);
    }

    private void run(Method test) {
        try {
            test.invoke(this);
        } catch (InvocationTargetException e) {
            wrong = true;
            System.out.println(running + " threw " + e.getCause());
        } catch (IllegalAccessException e) {
            wrong = true;
            System.out.println(running + " can't be run");
        }
    }

    // ---- answers and those due

    final void due(long got, long want) {
        if (got != want) {
            wrong = true;
            System.out.println(running + ", line " + line() + ": answered " + got + ", due is " + want);
        }
    }

    final void due(boolean got, boolean want) {
        due(bit(got), bit(want));
    }

    /** The test's own line, not one of this class. */
    private static int line() {
        for (StackTraceElement e : Thread.currentThread().getStackTrace()) {
            if (e.getClassName().endsWith("Test")) {
                return e.getLineNumber();
            }
        }
        return NONE;
    }

    static long bit(boolean b) {
        return b ? 1 : 0;
    }

    /** A call that is refused, or only looks: of two alike objects one gets it, all later answers are the same. */
    final void leavesAll(long want, Made made, Call call) {
        TillPipe with = made.make();
        TillPipe without = made.make();
        due(call.on(with), want);
        List<Long> one = later(with);
        List<Long> other = later(without);
        for (int i = 0; i < one.size(); i++) {
            if (!one.get(i).equals(other.get(i))) {
                wrong = true;
                System.out.println(running + ", line " + line() + ": changed later answer " + i + " from "
                    + other.get(i) + " to " + one.get(i));
                return;
            }
        }
    }

    /** What an object answers from here on: some 350 calls. */
    private static List<Long> later(TillPipe x) {
        List<Long> out = new ArrayList<>();
        looks(x, out);
        out.add((long) x.text(CUSTOMER));
        looks(x, out);
        out.add((long) x.text(RULE));
        for (int rule = 0; rule < 4; rule++) {
            out.add((long) x.day(rule, 9, 3));
        }
        out.add((long) x.by(0, 0));
        out.add(bit(x.lay(0, 0)));
        out.add(bit(x.lay(0, 1)));
        out.add(bit(x.lay(0, 2)));
        looks(x, out);
        out.add((long) x.back());
        looks(x, out);
        out.add((long) x.feed(0x20202020, 0, 0, 0, 0));
        out.add((long) x.fault(CUSTOMER));
        out.add((long) x.text(SHOP));
        out.add(x.till());
        return out;
    }

    private static void looks(TillPipe x, List<Long> out) {
        for (int what = 0; what < 8; what++) {
            out.add((long) x.count(what));
        }
        for (int sort = 0; sort < 3; sort++) {
            out.add((long) x.fault(sort));
        }
        out.add(x.till());
        for (int kind = 0; kind < 4; kind++) {
            out.add((long) valueOf(x, kind));
            out.add((long) x.tray(kind));
        }
        for (int i = 0; i < 5; i++) {
            out.add((long) x.coin(0, i) * 10 + x.coin(1, i));
        }
        for (int customer = 0; customer < 4; customer++) {
            out.add((long) x.served(customer));
            for (int kind = NONE; kind < 4; kind++) {
                out.add((long) x.customer(customer, kind));
            }
            out.add(x.result(customer, NONE));
        }
    }

    private static int valueOf(TillPipe x, int kind) {
        try {
            return x.value(kind);
        } catch (NoSuchElementException e) {
            return NO_VALUE;
        }
    }

    static boolean valueThrows(TillPipe x, int kind) {
        return valueOf(x, kind) == NO_VALUE;
    }

    // ---- objects made ready

    static int feed(TillPipe x, String text) {
        int length = x.count(6);
        for (int at = 0; at < text.length(); at += 20) {
            int[] five = new int[5];
            for (int i = 0; i < 20 && at + i < text.length(); i++) {
                five[i / 4] |= text.charAt(at + i) << 24 - i % 4 * 8;
            }
            length = x.feed(five[0], five[1], five[2], five[3], five[4]);
        }
        return length;
    }

    static int tell(TillPipe x, String text, int sort) {
        x.end(0);
        feed(x, text);
        return x.text(sort);
    }

    final void dueFault(int sort, String text, int want) {
        TillPipe x = new TillPipe();
        feed(x, text);
        due(x.fault(sort), want);
    }

    final void dueFine(int sort, String... texts) {
        for (String text : texts) {
            dueFault(sort, text, NONE);
        }
    }

    final TillPipe shop(String text, String... customers) {
        TillPipe x = new TillPipe();
        due(tell(x, text, SHOP) > 0, true);
        for (int i = 0; i < customers.length; i++) {
            due(tell(x, customers[i], CUSTOMER), i);
        }
        return x;
    }

    final void rules(TillPipe x, String... texts) {
        for (String text : texts) {
            due(tell(x, text, RULE) >= 0, true);
        }
    }

    /** Coins as words of a kind's letter and a place: "a0 b1 c2" lays a into pipe 0, b into pipe 1, c on the tray. */
    final TillPipe laid(TillPipe x, String coins) {
        for (String coin : coins.trim().split(" +")) {
            if (!coin.isEmpty()) {
                due(x.lay(coin.charAt(0) - 'a', coin.charAt(1) - '0'), true);
            }
        }
        return x;
    }

    final TillPipe fed(TillPipe x, String text) {
        feed(x, text);
        return x;
    }

    /** The NUMBER of a till told by letters, each pipe from the bottom up. */
    static long number(String first, String second, String tray) {
        long number = digits(first) * 3125 + digits(second);
        long onTray = 0;
        for (char kind : tray.toCharArray()) {
            onTray += 1L << kind - 'a';
        }
        return number * 16 + onTray;
    }

    private static long digits(String pipe) {
        long number = 0;
        for (char kind : pipe.toCharArray()) {
            number = number * 5 + kind - 'a' + 1;
        }
        return number;
    }

    /** No shop, a rule, a customer's text on the tape. */
    final TillPipe bare() {
        TillPipe x = new TillPipe();
        rules(x, "y:n");
        return fed(x, "4:ab");
    }

    /** Customers of whom some were served, two rules, an image, pipes [ac] and [abaa], b on the tray, a customer's text fed. */
    final TillPipe busy() {
        TillPipe x = shop("c1,2,5;p2;l4", "3:c", "2:b", "1:aa");
        rules(x, "y:0-n", "y:v*i+2");
        laid(x, "b0 a1 a0");
        due(x.serve(1, 0), 1);
        due(x.serve(2, 1), 1);
        due(x.image() > 0, true);
        due(x.serve(2, 0), 2);
        laid(x, "c0");
        return fed(x, "4:ab");
    }

    /** Four customers, four rules, an image, pipes and tray full, a customer's text on the tape. */
    final TillPipe full() {
        TillPipe x = shop("c1,2,5,9;p2;l2", "3:c", "2:b", "1:aa", "7:dd");
        rules(x, "y:0-n", "y:i", "y:v", "y:0-i");
        laid(x, "a0 a1");
        due(x.serve(1, 0), 1);
        due(x.image() > 0, true);
        laid(x, "c0 a2");
        return fed(x, "4:ab");
    }
}
