import java.lang.reflect.InvocationTargetException;
import java.lang.reflect.Method;
import java.lang.reflect.Modifier;
import java.util.NoSuchElementException;

/** Every call with the greatest, least and other strange numbers: only value may throw, and only its own. */
public final class ExtremesTest {
    private static final int[] STRANGE = {Integer.MIN_VALUE, Integer.MIN_VALUE + 1, -1000000007, -100, -3, -2, -1, 0, 1, 2, 3,
        4, 5, 6, 10, 59, 60, 61, 99, 100, 160, 161, 123, 3210, 65536, 1000000007, Integer.MAX_VALUE - 1, Integer.MAX_VALUE};
    private static int wrong = 0;
    private static long calls = 0;

    private ExtremesTest() {
    }

    public static void main(String[] args) throws IllegalAccessException {
        for (int state = 0; state < 3; state++) {
            for (Method m : TillPipe.class.getDeclaredMethods()) {
                if (Modifier.isPublic(m.getModifiers())) {
                    TillPipe x = made(state);
                    goThrough(x, m, new Object[m.getParameterCount()], 0);
                }
            }
        }
        System.out.println(calls + " calls, " + wrong + " wrong");
        if (wrong > 0) {
            System.exit(1);
        }
    }

    /** No shop; a shop with four customers and rules; the same with full pipes. */
    private static TillPipe made(int state) {
        TillPipe x = new TillPipe();
        if (state > 0) {
            x.feed(0x63312c32, 0x2c352c37, 0x3b703200, 0, 0);
            x.text(0);
            for (int i = 0; i < 4; i++) {
                x.feed(0x333a6100 + i * 0x100, 0x62000000, 0, 0, 0);
                x.text(1);
                x.feed(0x793a762d, 0x74000000, 0, 0, 0);
                x.text(2);
            }
        }
        for (int i = 0; state > 1 && i < 12; i++) {
            x.lay(i % 4, i % 3);
        }
        return x;
    }

    private static void goThrough(TillPipe x, Method m, Object[] args, int at) throws IllegalAccessException {
        if (at == args.length) {
            call(x, m, args);
            return;
        }
        // five places of all strange numbers would be too many: only some of them there
        int step = args.length > 3 ? 5 : 1;
        for (int i = at % step; i < STRANGE.length; i += step) {
            if (m.getParameterTypes()[at] == long.class) {
                args[at] = STRANGE[i] * 4611686018427387905L;
            } else {
                args[at] = STRANGE[i];
            }
            goThrough(x, m, args, at + 1);
        }
    }

    private static void call(TillPipe x, Method m, Object[] args) throws IllegalAccessException {
        calls++;
        try {
            m.invoke(x, args);
        } catch (InvocationTargetException e) {
            boolean allowed = m.getName().equals("value") && e.getCause() instanceof NoSuchElementException;
            if (!allowed) {
                wrong++;
                System.out.println(m.getName() + " threw " + e.getCause());
            }
        }
    }
}
