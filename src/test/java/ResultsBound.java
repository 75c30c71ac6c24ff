import java.util.ArrayList;
import java.util.Arrays;
import java.util.Comparator;
import java.util.List;
import java.util.stream.IntStream;

/**
 * Why no customer ever has more than 1,000 RESULTS. Run by hand (some minutes), not by .ci/run.
 *
 * A shop of less kinds, pipes, length or tray, or a purse of less coins, has no RESULTS that one of four
 * kinds, two pipes of five and a tray of one, with four coins in the purse, has not; so only those count.
 *
 * A RESULT is told by how many coins i and j went out of the pipes, what lies on the tray (nothing or a
 * kind: what it is worth, w), which set G was given, and how that went in. What went out and what lay on
 * the tray at first are worth T(i, j) together, and T(i, j) - w = worth(G) - price. T grows strictly with i
 * and with j: along a chain of pairs (i, j) no two have the same sum worth(G) + w, and the sums rise. So for
 * each chain no more RESULTS are there than in the best rising choice of sums, each with all ways in which
 * its sets go into the room at (i, j). Chains that hold all pairs together give a bound.
 *
 * It is over 1,000 for values m, 2m, 3m, 4m with one coin of each in the purse alone; there RESULTS are
 * those of 1, 2, 3, 4 and the price by m, and all tills and prices of these are gone through one by one.
 */
public final class ResultsBound {
    private static final int LIMIT = 1000;
    private static final int KINDS = 4;
    private static final int LENGTH = 5;
    private static final List<Purse> PURSES = purses();

    private ResultsBound() {
    }

    public static void main(String[] args) {
        int[] most = IntStream.rangeClosed(KINDS, 99).parallel().map(ResultsBound::boundWithGreatest).toArray();
        int bound = Arrays.stream(most).max().getAsInt();
        System.out.println("but for values 1:2:3:4 and the purse abcd: " + bound + " at most");
        int[] tills = IntStream.range(0, pipes().size()).parallel().map(ResultsBound::mostWithFirst).toArray();
        int exact = Arrays.stream(tills).max().getAsInt();
        System.out.println("with these: " + exact + " at most");
        System.exit(bound <= LIMIT && exact <= LIMIT ? 0 : 1);
    }

    // ---- the bound

    /** A purse as how many of each kind, its sets, and in how many ways a set goes into so much room. */
    private static final class Purse {
        final int[] counts;
        final List<int[]> sets = new ArrayList<>();
        final List<int[][]> ways = new ArrayList<>();

        Purse(int[] counts) {
            this.counts = counts;
            for (int code = 1; code < 625; code++) {
                int[] set = {code % 5, code / 5 % 5, code / 25 % 5, code / 125};
                boolean within = true;
                for (int kind = 0; kind < KINDS; kind++) {
                    within &= set[kind] <= counts[kind];
                }
                if (within) {
                    sets.add(set);
                    ways.add(waysOf(set));
                }
            }
        }

        private static int[][] waysOf(int[] set) {
            int[][] out = new int[LENGTH + 1][LENGTH + 1];
            for (int first = 0; first <= LENGTH; first++) {
                for (int second = 0; second <= LENGTH; second++) {
                    out[first][second] = ways(set, 0, first, second);
                }
            }
            return out;
        }

        private static int ways(int[] set, int kind, int first, int second) {
            if (kind == KINDS) {
                return 1;
            }
            int all = 0;
            for (int here = Math.max(0, set[kind] - second); here <= set[kind] && here <= first; here++) {
                all += ways(set, kind + 1, first - here, second - set[kind] + here);
            }
            return all;
        }
    }

    private static List<Purse> purses() {
        List<Purse> out = new ArrayList<>();
        for (int code = 0; code < 625; code++) {
            int[] counts = {code % 5, code / 5 % 5, code / 25 % 5, code / 125};
            if (Arrays.stream(counts).sum() == 4) {
                out.add(new Purse(counts));
            }
        }
        return out;
    }

    private static int boundWithGreatest(int greatest) {
        int most = 0;
        for (int c = 3; c < greatest; c++) {
            for (int b = 2; b < c; b++) {
                for (int a = 1; a < b; a++) {
                    int[] values = {a, b, c, greatest};
                    boolean even = b == 2 * a && c == 3 * a && greatest == 4 * a;
                    for (Purse purse : PURSES) {
                        boolean oneEach = Arrays.stream(purse.counts).max().getAsInt() == 1;
                        if (!even || !oneEach) {
                            most = Math.max(most, bound(values, purse));
                        }
                    }
                }
            }
        }
        return most;
    }

    private static int bound(int[] values, Purse purse) {
        int[][] sums = new int[purse.sets.size() * (KINDS + 1)][];
        int n = 0;
        for (int g = 0; g < purse.sets.size(); g++) {
            int worth = 0;
            for (int kind = 0; kind < KINDS; kind++) {
                worth += values[kind] * purse.sets.get(g)[kind];
            }
            sums[n++] = new int[] {worth, g};
            for (int kind = 0; kind < KINDS; kind++) {
                sums[n++] = new int[] {worth + values[kind], g};
            }
        }
        int rough = roughBound(sums, purse);
        if (rough <= LIMIT) {
            return rough;
        }
        Arrays.sort(sums, Comparator.comparingInt(s -> s[0]));
        List<int[][]> weights = new ArrayList<>();
        for (int i = 0; i < sums.length; i++) {
            if (i == 0 || sums[i][0] != sums[i - 1][0]) {
                weights.add(new int[LENGTH + 1][LENGTH + 1]);
            }
            int[][] last = weights.get(weights.size() - 1);
            int[][] ways = purse.ways.get(sums[i][1]);
            for (int cell = 0; cell < 36; cell++) {
                last[cell / 6][cell % 6] += ways[cell / 6][cell % 6];
            }
        }
        int most = 0;
        for (int heights = 0; heights < 36; heights++) {
            most = Math.max(most, boundOfHeights(weights, heights / 6, heights % 6));
        }
        return most;
    }

    /** Six rows of six pairs, each of them with the six greatest sums and all the room there can be. */
    private static int roughBound(int[][] sums, Purse purse) {
        int[] together = new int[99 * 5 + 1];
        for (int[] sum : sums) {
            together[sum[0]] += purse.ways.get(sum[1])[LENGTH][LENGTH];
        }
        int[] top = new int[6];
        for (int weight : together) {
            for (int i = 0; i < 6 && weight > 0; i++) {
                int kept = Math.max(top[i], weight);
                weight = Math.min(top[i], weight);
                top[i] = kept;
            }
        }
        return 6 * Arrays.stream(top).sum();
    }

    /** Chains go up the first pipe and then along the second. */
    private static int boundOfHeights(List<int[][]> weights, int first, int second) {
        int all = 0;
        for (int k = 0; k <= first && k <= second; k++) {
            List<int[]> chain = new ArrayList<>();
            for (int i = 0; i <= first - k; i++) {
                chain.add(new int[] {LENGTH - first + i, LENGTH - second + k});
            }
            for (int j = k + 1; j <= second; j++) {
                chain.add(new int[] {LENGTH - k, LENGTH - second + j});
            }
            all += bestRising(weights, chain);
        }
        return all;
    }

    private static int bestRising(List<int[][]> weights, List<int[]> chain) {
        int[] best = new int[weights.size() + 1];
        for (int[] room : chain) {
            int[] next = new int[best.length];
            for (int l = 0; l < weights.size(); l++) {
                next[l + 1] = Math.max(best[l] + weights.get(l)[room[0]][room[1]], Math.max(best[l + 1], next[l]));
            }
            best = next;
        }
        return best[weights.size()];
    }

    // ---- all tills of kinds 1, 2, 3, 4 with the purse abcd; a till with its pipes exchanged has as many RESULTS

    /** Pipes from the top down, as kinds' values. */
    private static List<int[]> pipes() {
        List<int[]> out = new ArrayList<>();
        for (int height = 0; height <= LENGTH; height++) {
            for (int code = 0; code < 1 << 2 * height; code++) {
                int[] pipe = new int[height];
                for (int i = 0; i < height; i++) {
                    pipe[i] = 1 + (code >> 2 * i & 3);
                }
                out.add(pipe);
            }
        }
        return out;
    }

    private static int mostWithFirst(int which) {
        List<int[]> pipes = pipes();
        Till till = new Till();
        int most = 0;
        for (int other = 0; other <= which; other++) {
            for (int tray = 0; tray <= KINDS; tray++) {
                for (int price = 1; price <= 10; price++) {
                    most = Math.max(most, till.results(pipes.get(which), pipes.get(other), tray, price));
                }
            }
        }
        return most;
    }

    private static final class Till {
        private static final int BITS = 12;
        private final int[] slots = new int[1 << BITS];
        private final int[] stamps = new int[1 << BITS];
        private final boolean[] seen = new boolean[180];
        private final int[] queue = new int[180];
        private int stamp;
        private int found;
        private int mask;
        private int tray;

        int results(int[] first, int[] second, int onTray, int price) {
            stamp++;
            found = 0;
            for (mask = 1; mask < 16; mask++) {
                int spare = -price;
                for (int kind = 0; kind < KINDS; kind++) {
                    spare += (mask >> kind & 1) == 1 ? kind + 1 : 0;
                }
                if (spare >= 0) {
                    change(first, second, onTray, spare);
                }
            }
            return found;
        }

        /** States: how many are out of each pipe and what lies on the tray; what is left follows from these. */
        private void change(int[] first, int[] second, int onTray, int spare) {
            Arrays.fill(seen, false);
            int queued = 0;
            seen[onTray] = true;
            queue[queued++] = onTray;
            for (int head = 0; head < queued; head++) {
                int lying = queue[head] % 5;
                int j = queue[head] / 5 % 6;
                int i = queue[head] / 30;
                int left = spare - onTray + lying;
                for (int out = 0; out < i; out++) {
                    left -= first[out];
                }
                for (int out = 0; out < j; out++) {
                    left -= second[out];
                }
                if (left == 0) {
                    tray = lying;
                    putIn(KINDS - 1, number(first, i), first.length - i, number(second, j), second.length - j);
                    continue;
                }
                int[] next = {lying > 0 && lying <= left ? queue[head] - lying : NO,
                    i < first.length && first[i] <= left ? queue[head] + 30 : NO,
                    i < first.length && lying == 0 ? queue[head] + 30 + first[i] : NO,
                    j < second.length && second[j] <= left ? queue[head] + 5 : NO,
                    j < second.length && lying == 0 ? queue[head] + 5 + second[j] : NO};
                for (int state : next) {
                    if (state != NO && !seen[state]) {
                        seen[state] = true;
                        queue[queued++] = state;
                    }
                }
            }
        }

        private static final int NO = -1;

        private static int number(int[] pipe, int out) {
            int number = 0;
            for (int i = pipe.length - 1; i >= out; i--) {
                number = number * 5 + pipe[i];
            }
            return number;
        }

        private void putIn(int kind, int first, int firstHeight, int second, int secondHeight) {
            if (kind < 0) {
                add((first * 3125 + second) * 5 + tray);
                return;
            }
            if ((mask >> kind & 1) == 0) {
                putIn(kind - 1, first, firstHeight, second, secondHeight);
                return;
            }
            if (firstHeight < LENGTH) {
                putIn(kind - 1, first * 5 + kind + 1, firstHeight + 1, second, secondHeight);
            }
            if (secondHeight < LENGTH) {
                putIn(kind - 1, first, firstHeight, second * 5 + kind + 1, secondHeight + 1);
            }
        }

        private void add(int till) {
            int slot = till * 0x9E3779B1 >>> 32 - BITS;
            while (stamps[slot] == stamp) {
                if (slots[slot] == till) {
                    return;
                }
                slot = slot + 1 & slots.length - 1;
            }
            stamps[slot] = stamp;
            slots[slot] = till;
            found++;
        }
    }
}
