import java.util.NoSuchElementException;
import java.util.Random;

/** Runs of calls by draws, each answer of TillPipe held against PlainTill's. */
public final class RandomTest {
    private static final int CALLS = 500;
    private static final int SMALL = 0;
    private static final int RICH = 2;
    private static long compared = 0;

    private final Random draw;
    private TillPipe x = new TillPipe();
    private PlainTill y = new PlainTill();
    private final StringBuilder log = new StringBuilder();
    private final int[] answers;
    /** How wide the run's shops and purses are: only wide ones lead to what is not told. */
    private int size;
    private int calls;
    private boolean wrong;

    private RandomTest(long seed, int[] answers) {
        draw = new Random(seed);
        this.answers = answers;
    }

    public static void main(String[] args) {
        int from = args.length > 0 ? Integer.parseInt(args[0]) : 0;
        int to = args.length > 1 ? Integer.parseInt(args[1]) : 120;
        int failed = 0;
        int[] hidden = new int[41];
        for (int seed = from; seed < to && failed < 5; seed++) {
            RandomTest one = new RandomTest(seed, hidden);
            one.go();
            if (one.wrong) {
                failed++;
                System.out.println("seed " + seed + ":\n" + one.log);
            }
        }
        System.out.println(compared + " answers compared, " + failed + " runs failed");
        if (args.length > 2) {
            for (int i = 0; i <= 40; i++) {
                System.out.println("promise " + i + " hidden: " + hidden[i]);
            }
        }
        if (failed > 0) {
            System.exit(1);
        }
    }

    private void due(int promise, String call, long got, long want) {
        calls++;
        compared++;
        log.append(call).append(" -> ").append(got).append('\n');
        if (want == PlainTill.HIDDEN) {
            answers[promise]++;
        }
        if (got != want) {
            wrong = true;
            log.append("   due is ").append(want).append('\n');
        }
    }

    private int some(int low, int high) {
        return low + draw.nextInt(high - low + 1);
    }

    private void go() {
        size = draw.nextInt(3);
        while (calls < CALLS && !wrong) {
            if (y.values.length == 0 || draw.nextInt(150) == 0) {
                tell(shopText(), 0);
                for (int i = size == RICH ? 4 : some(0, 4); i > 0 && !wrong; i--) {
                    tell(customerText(), 1);
                }
                for (int i = size == RICH ? some(0, 12) : 0; i > 0 && !wrong; i--) {
                    call(8);
                }
            }
            int what = draw.nextInt(100);
            if (what < 2) {
                tell(customerText(), 1);
            } else if (what < 5) {
                tell(ruleText(), 2);
            } else if (what < 8) {
                tapeCall();
            } else {
                call(some(4, 40));
            }
        }
    }

    private void tell(String text, int sort) {
        if (y.tape.length() > 0) {
            due(3, "end(0)", x.end(0) ? 1 : 0, y.end(0) ? 1 : 0);
        }
        String mended = draw.nextInt(6) == 0 ? spoilt(text) : text;
        feedAll(blanks(mended));
        due(4, "fault(" + sort + ") of '" + y.tape + "'", x.fault(sort), y.fault(sort));
        due(5, "text(" + sort + ")", x.text(sort), y.text(sort));
    }

    private void feedAll(String text) {
        for (int at = 0; at < text.length() && !wrong; at += 20) {
            int[] five = new int[5];
            for (int i = 0; i < 20; i++) {
                int sign = at + i < text.length() ? text.charAt(at + i) : 0;
                five[i / 4] |= sign << 24 - i % 4 * 8;
            }
            due(2, "feed of '" + text + "' from " + at,
                x.feed(five[0], five[1], five[2], five[3], five[4]), y.feed(five));
        }
    }

    private void tapeCall() {
        switch (draw.nextInt(4)) {
            case 0:
                int n = some(-1, y.tape.length() + 1);
                due(3, "end(" + n + ")", x.end(n) ? 1 : 0, y.end(n) ? 1 : 0);
                break;
            case 1:
                int[] f = {draw.nextInt(), draw.nextInt() & 0xff00ff, draw.nextInt(), 0, draw.nextInt()};
                due(2, "feed", x.feed(f[0], f[1], f[2], f[3], f[4]), y.feed(f));
                break;
            case 2:
                feedAll(draw.nextBoolean() ? ruleText() : shopText());
                break;
            default:
                int sort = some(-1, 3);
                due(4, "fault(" + sort + ") of '" + y.tape + "'", x.fault(sort), y.fault(sort));
        }
    }

    private String blanks(String text) {
        if (draw.nextInt(4) > 0) {
            return text;
        }
        StringBuilder out = new StringBuilder();
        for (int i = 0; i < text.length(); i++) {
            boolean within = i > 0 && Character.isDigit(text.charAt(i)) && Character.isDigit(text.charAt(i - 1));
            if (draw.nextInt(within ? 40 : 5) == 0) {
                out.append(' ');
            }
            out.append(text.charAt(i));
        }
        return out.append(draw.nextInt(3) == 0 ? " " : "").toString();
    }

    private String spoilt(String text) {
        int at = draw.nextInt(text.length() + 1);
        switch (draw.nextInt(3)) {
            case 0:
                return text.substring(0, at);
            case 1:
                return text.substring(0, at) + sign() + text.substring(at);
            default:
                return text.substring(0, at) + sign() + (at < text.length() ? text.substring(at + 1) : "");
        }
    }

    private char sign() {
        String all = "0123456789,;:abcdplty?|&!()[]=<>+-*/vtniso x";
        return draw.nextInt(20) == 0 ? (char) some(1, 255) : all.charAt(draw.nextInt(all.length()));
    }

    private String shopText() {
        StringBuilder out = new StringBuilder("c");
        int kinds = some(1, 4);
        int last = 0;
        for (int i = 0; i < kinds; i++) {
            last += size == RICH ? some(1, 2) : draw.nextInt(4) > 0 ? some(1, 3) : some(1, 24);
            out.append(i > 0 ? "," : "").append(draw.nextInt(20) == 0 && last < 10 ? "0" : "").append(last);
        }
        if (size == RICH || draw.nextInt(2) == 0) {
            out.append(";p").append(size == RICH ? 2 : some(1, 2));
        }
        if (size == SMALL || draw.nextInt(2) == 0) {
            out.append(";l").append(size == SMALL ? some(1, 3) : some(3, 5));
        }
        if (draw.nextInt(3) == 0) {
            out.append(";t").append(some(0, 1));
        }
        return out.toString();
    }

    private String customerText() {
        int kinds = y.values.length == 0 ? 4 : y.values.length;
        StringBuilder purse = new StringBuilder();
        int sum = 0;
        for (int i = some(size == RICH ? 2 : 1, 4); i > 0; i--) {
            int kind = draw.nextInt(kinds);
            purse.append((char) ('a' + kind));
            sum += y.values.length == 0 ? 5 : y.values[kind];
        }
        int price = draw.nextInt(8) == 0 ? some(1, 99) : Math.min(99, Math.max(1, some(Math.max(1, sum - (size == RICH ? 12 : 6)), sum)));
        return price + ":" + purse;
    }

    private String ruleText() {
        StringBuilder out = new StringBuilder();
        for (int i = some(1, 3); i > 0; i--) {
            out.append(out.length() > 0 ? ";" : "").append("y:");
            if (i > 1 || draw.nextBoolean()) {
                out.append(conditionText(some(0, 7))).append('?');
            }
            out.append(sumText(some(0, 7)));
        }
        return out.length() > 120 ? "y:" + sumText(2) : out.toString();
    }

    private String conditionText(int depth) {
        int what = draw.nextInt(8);
        if (depth > 0 && what == 0) {
            return "!" + unitText(depth - 1);
        }
        if (depth > 0 && what < 3) {
            return conditionText(depth - 1) + (what == 1 ? "|" : "&") + conditionText(depth - 1);
        }
        return unitText(depth);
    }

    private String unitText(int depth) {
        int what = depth == 0 ? 9 : draw.nextInt(4);
        if (what == 0) {
            return "!" + unitText(depth - 1);
        }
        if (what == 1) {
            return "(" + conditionText(depth - 1) + ")";
        }
        return sumText(Math.min(depth, 1)) + "=<>".charAt(draw.nextInt(3)) + sumText(Math.min(depth, 2));
    }

    private String sumText(int depth) {
        int what = depth == 0 ? 9 : draw.nextInt(5);
        if (what == 0) {
            return "[" + sumText(depth - 1) + "]";
        }
        if (what < 4) {
            return sumText(Math.min(2, depth - 1)) + "+-*/".charAt(draw.nextInt(4)) + sumText(depth - 1);
        }
        return draw.nextInt(3) == 0 ? "" + some(0, draw.nextInt(3) == 0 ? 9999 : 12)
            : "" + "vtniso".charAt(draw.nextInt(6));
    }

    private int rowDrawn() {
        int n = y.buyers.size();
        if (n == 0 || draw.nextInt(8) == 0) {
            return some(-2, 40);
        }
        var all = PlainTill.orders(PlainTill.firstOnes(n));
        return PlainTill.asNumber(all.get(draw.nextInt(all.size())));
    }

    private void call(int promise) {
        int c = draw.nextInt(10) == 0 ? some(-2, 4) : some(0, Math.max(0, y.buyers.size() - 1));
        int r = draw.nextInt(10) == 0 ? some(-2, 4) : some(0, Math.max(0, y.rules.size() - 1));
        int kind = draw.nextInt(6) == 0 ? some(-2, 5) : some(0, Math.max(0, y.values.length - 1));
        int two = draw.nextInt(10) == 0 ? some(-1, 2) : some(0, 1);
        int n = draw.nextInt(10) == 0 ? some(-1, 62) : some(1, 60);
        if (promise <= 14) {
            shopCall(promise, c, kind, two);
        } else if (promise <= 21) {
            rowCall(promise, two);
        } else if (promise <= 28 || promise == 37) {
            ruleCall(promise, c, r, kind, two, n);
        } else {
            restCall(promise, c, kind, two);
        }
    }

    private int valueOf(int kind) {
        try {
            return x.value(kind);
        } catch (NoSuchElementException e) {
            return PlainTill.NONE;
        }
    }

    private void shopCall(int promise, int c, int kind, int two) {
        int k = draw.nextInt(6) == 0 ? some(-3, 8) : some(-1, 3);
        switch (promise) {
            case 6:
                due(6, "value(" + kind + ")", valueOf(kind), y.value(kind));
                break;
            case 7:
                due(7, "customer(" + c + ", " + kind + ")", x.customer(c, kind), y.customer(c, kind));
                break;
            case 8:
            case 4:
            case 5:
                int where = draw.nextInt(10) == 0 ? some(-1, 3) : some(0, 2);
                due(8, "lay(" + kind + ", " + where + ")", x.lay(kind, where) ? 1 : 0, y.lay(kind, where) ? 1 : 0);
                break;
            case 9:
                due(9, "lift(" + two + ")", x.lift(two), y.lift(two));
                break;
            case 10:
                due(10, "coin(" + two + ", " + k + ")", x.coin(two, k), y.coin(two, k));
                break;
            case 11:
                due(11, "tray(" + kind + ")", x.tray(kind), y.tray(kind));
                break;
            case 12:
                due(12, "till()", x.till(), y.till());
                break;
            case 13:
                due(13, "result(" + c + ", " + k + ")", x.result(c, k), y.result(c, k));
                break;
            default:
                due(14, "serve(" + c + ", " + k + ")", x.serve(c, k), y.serve(c, k));
                due(12, "till()", x.till(), y.till());
        }
    }

    private void rowCall(int promise, int two) {
        int row = rowDrawn();
        switch (promise) {
            case 15:
                due(15, "row(" + row + ")", x.row(row), y.row(row));
                break;
            case 16:
                int k = draw.nextInt(3) == 0 ? some(-3, 30) : some(-1, 3);
                due(16, "left(" + row + ", " + k + ")", x.left(row, k), y.left(row, k));
                break;
            case 17:
                due(17, "aside(" + two + ")", x.aside(two), y.aside(two));
                break;
            case 18:
                due(18, "steps(" + row + ")", x.steps(row), y.steps(row));
                break;
            case 19:
                due(19, "most()", x.most(), y.most());
                break;
            case 20:
                int m = some(0, 3);
                due(20, "dawn(" + m + ", " + two + ")", x.dawn(m, two), y.dawn(m, two));
                break;
            default:
                int b = some(0, 5);
                due(21, "breaks(" + b + ")", x.breaks(b), y.breaks(b));
        }
    }

    private void ruleCall(int promise, int c, int r, int kind, int two, int n) {
        int row = rowDrawn();
        long seed = draw.nextBoolean() ? draw.nextLong() : some(-3, 30);
        switch (promise) {
            case 22:
                due(22, "by(" + r + ", " + c + ")", x.by(r, c), y.by(r, c));
                due(12, "till()", x.till(), y.till());
                break;
            case 23:
                due(23, "gives(" + c + ", " + kind + ")", x.gives(c, kind), y.gives(c, kind));
                break;
            case 24:
                due(24, "run(" + r + ", " + row + ")", x.run(r, row), y.run(r, row));
                break;
            case 25:
                due(25, "worst(" + r + ", " + two + ")", x.worst(r, two), y.worst(r, two));
                break;
            case 26:
                due(26, "day(" + r + ", " + n + ", " + seed + ")", x.day(r, n, seed), y.day(r, n, seed));
                break;
            case 27:
                int byRow = draw.nextInt(3);
                int first = byRow == 0 ? NONE_ROW : row;
                int second = byRow == 1 ? 0 : n;
                due(27, "best(" + first + ", " + second + ", " + seed + ")",
                    x.best(first, second, seed), y.best(first, second, seed));
                break;
            case 28:
                due(28, "served(" + c + ")", x.served(c), y.served(c));
                break;
            default:
                int k = draw.nextInt(10) == 0 ? some(-1, 22) : some(1, 20);
                due(37, "mean(" + r + ", " + n + ", " + k + ", " + two + ")", x.mean(r, n, k, two), y.mean(r, n, k, two));
        }
    }

    private static final int NONE_ROW = -1;

    private void restCall(int promise, int c, int kind, int two) {
        switch (promise) {
            case 29:
                due(29, "cover(" + kind + ")", x.cover(kind), y.cover(kind));
                break;
            case 30:
                int much = draw.nextInt(10) == 0 ? some(-1, 101) : some(1, 12);
                due(30, "change(" + much + ", " + two + ")", x.change(much, two), y.change(much, two));
                break;
            case 31:
                due(31, "amounts()", x.amounts(), y.amounts());
                break;
            case 32:
                due(32, "helps(" + c + ")", x.helps(c), y.helps(c));
                break;
            case 33:
                due(33, "spoils(" + c + ")", x.spoils(c), y.spoils(c));
                break;
            case 34:
                due(34, "wise(" + c + ", " + two + ")", x.wise(c, two), y.wise(c, two));
                break;
            case 35:
                due(35, "rich(" + c + ", " + two + ")", x.rich(c, two), y.rich(c, two));
                break;
            case 36:
                due(36, "chain()", x.chain(), y.chain());
                break;
            case 38:
                due(38, "image()", x.image(), y.image());
                break;
            case 39:
                if (draw.nextInt(4) == 0) {
                    due(39, "back()", x.back(), y.back());
                }
                due(12, "till()", x.till(), y.till());
                break;
            default:
                int what = some(-1, 8);
                due(40, "count(" + what + ")", x.count(what), y.count(what));
        }
    }
}
