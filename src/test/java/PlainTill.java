import java.math.BigInteger;
import java.util.ArrayList;
import java.util.Collections;
import java.util.Comparator;
import java.util.HashSet;
import java.util.List;
import java.util.Set;
import java.util.TreeSet;

/**
 * The document's words once more, as plainly as they can be followed and without a thought of speed:
 * tests hold TillPipe's answers against this one's. It shares no code and no way of reckoning with it.
 */
final class PlainTill {
    static final int NONE = -1;
    static final int HIDDEN = -2;

    /** Thrown where something that is looked at is not told. */
    static final class NotTold extends Exception {
        private static final long serialVersionUID = 1L;
    }

    static final class State {
        final List<List<Integer>> pipes = new ArrayList<>();
        final List<Integer> tray = new ArrayList<>();

        State() {
            pipes.add(new ArrayList<>());
            pipes.add(new ArrayList<>());
        }

        State copy() {
            State s = new State();
            s.pipes.get(0).addAll(pipes.get(0));
            s.pipes.get(1).addAll(pipes.get(1));
            s.tray.addAll(tray);
            return s;
        }

        long number() {
            long n = 0;
            for (List<Integer> pipe : pipes) {
                long one = 0;
                for (int kind : pipe) {
                    one = one * 5 + kind + 1;
                }
                n = n * 3125 + one;
            }
            long t = 0;
            for (int kind : tray) {
                t += 1L << kind;
            }
            return n * 16 + t;
        }

        static State of(long number) {
            State s = new State();
            long t = number % 16;
            for (int kind = 0; kind < 4; kind++) {
                if ((t >> kind & 1) == 1) {
                    s.tray.add(kind);
                }
            }
            long[] two = {number / 16 / 3125, number / 16 % 3125};
            for (int p = 0; p < 2; p++) {
                for (long x = two[p]; x > 0; x /= 5) {
                    s.pipes.get(p).add(0, (int) (x % 5) - 1);
                }
            }
            return s;
        }

        int coins() {
            return pipes.get(0).size() + pipes.get(1).size() + tray.size();
        }
    }

    static final class Buyer {
        int price;
        List<Integer> purse = new ArrayList<>();
    }

    String tape = "";
    int[] values = {};
    int pipes;
    int length;
    int trayRoom;
    final List<Buyer> buyers = new ArrayList<>();
    final List<String> rules = new ArrayList<>();
    State now = new State();
    int[] served = new int[4];
    State imageState;
    int[] imageServed;

    int feed(int... five) {
        StringBuilder more = new StringBuilder();
        for (int x : five) {
            for (byte b : new byte[] {(byte) (x >> 24), (byte) (x >> 16), (byte) (x >> 8), (byte) x}) {
                if (b != 0) {
                    more.append((char) (b & 255));
                }
            }
        }
        if (tape.length() + more.length() > 160) {
            return NONE;
        }
        tape = tape + more;
        return tape.length();
    }

    boolean end(int n) {
        if (n < 0 || n > tape.length()) {
            return false;
        }
        tape = tape.substring(0, n);
        return true;
    }

    int fault(int sort) {
        if (sort == 0) {
            return PlainTexts.shopFault(tape);
        }
        if (sort == 1) {
            return PlainTexts.customerFault(tape, values.length == 0 ? 4 : values.length);
        }
        return sort == 2 ? PlainTexts.ruleFault(tape) : -2;
    }

    int text(int sort) {
        if (sort < 0 || sort > 2 || fault(sort) != NONE) {
            return NONE;
        }
        String plain = tape.replace(" ", "");
        if (sort == 0) {
            String[] parts = plain.split(";");
            String[] each = parts[0].substring(1).split(",");
            values = new int[each.length];
            for (int i = 0; i < each.length; i++) {
                values[i] = Integer.parseInt(each[i]);
            }
            pipes = 1;
            length = 5;
            trayRoom = 1;
            for (int i = 1; i < parts.length; i++) {
                int n = Integer.parseInt(parts[i].substring(1));
                switch (parts[i].charAt(0)) {
                    case 'p': pipes = n; break;
                    case 'l': length = n; break;
                    default: trayRoom = n;
                }
            }
            buyers.clear();
            now = new State();
            served = new int[4];
            imageState = null;
            tape = "";
            return values.length;
        }
        if (sort == 1) {
            if (values.length == 0 || buyers.size() == 4) {
                return NONE;
            }
            Buyer b = new Buyer();
            String[] two = plain.split(":");
            b.price = Integer.parseInt(two[0]);
            for (char c : two[1].toCharArray()) {
                b.purse.add(c - 'a');
            }
            buyers.add(b);
            tape = "";
            return buyers.size() - 1;
        }
        if (rules.size() == 4) {
            return NONE;
        }
        rules.add(plain);
        tape = "";
        return rules.size() - 1;
    }

    boolean kind(int k) {
        return k >= 0 && k < values.length;
    }

    boolean buyer(int c) {
        return c >= 0 && c < buyers.size();
    }

    boolean pipe(int p) {
        return p >= 0 && p < pipes;
    }

    boolean rule(int r) {
        return r >= 0 && r < rules.size();
    }

    /** NONE stands for the exception. */
    int value(int k) {
        return kind(k) ? values[k] : NONE;
    }

    int customer(int c, int k) {
        if (!buyer(c)) {
            return NONE;
        }
        if (k == NONE) {
            return buyers.get(c).price;
        }
        return kind(k) ? Collections.frequency(buyers.get(c).purse, k) : NONE;
    }

    boolean lay(int k, int where) {
        if (!kind(k)) {
            return false;
        }
        if (where == 2) {
            return now.tray.size() < trayRoom && now.tray.add(k);
        }
        return pipe(where) && now.pipes.get(where).size() < length && now.pipes.get(where).add(k);
    }

    int lift(int p) {
        if (!pipe(p) || now.pipes.get(p).isEmpty()) {
            return NONE;
        }
        return now.pipes.get(p).remove(now.pipes.get(p).size() - 1);
    }

    int coin(int p, int i) {
        return pipe(p) && i >= 0 && i < now.pipes.get(p).size() ? now.pipes.get(p).get(i) : NONE;
    }

    int tray(int k) {
        return kind(k) ? Collections.frequency(now.tray, k) : NONE;
    }

    long till() {
        return values.length == 0 ? NONE : now.number();
    }

    // ---- payings

    TreeSet<Long> allResults(long from, int c) {
        TreeSet<Long> out = new TreeSet<>();
        Buyer b = buyers.get(c);
        for (int mask = 0; mask < 1 << b.purse.size(); mask++) {
            List<Integer> given = new ArrayList<>();
            int sum = 0;
            for (int i = 0; i < b.purse.size(); i++) {
                if ((mask >> i & 1) == 1) {
                    given.add(b.purse.get(i));
                    sum += values[b.purse.get(i)];
                }
            }
            if (sum >= b.price) {
                given.sort(Comparator.reverseOrder());
                Set<Long> ends = new HashSet<>();
                giveChange(State.of(from), sum - b.price, ends, new HashSet<>());
                for (long e : ends) {
                    putIn(State.of(e), given, 0, out);
                }
            }
        }
        return out;
    }

    private void giveChange(State s, int left, Set<Long> ends, Set<String> seen) {
        if (!seen.add(s.number() + " " + left)) {
            return;
        }
        if (left == 0) {
            ends.add(s.number());
            return;
        }
        for (int p = 0; p < 2; p++) {
            if (!s.pipes.get(p).isEmpty()) {
                State t = s.copy();
                int k = t.pipes.get(p).remove(t.pipes.get(p).size() - 1);
                if (values[k] <= left) {
                    giveChange(t.copy(), left - values[k], ends, seen);
                }
                if (t.tray.size() < trayRoom) {
                    t.tray.add(k);
                    giveChange(t, left, ends, seen);
                }
            }
        }
        for (int k : s.tray) {
            if (values[k] <= left) {
                State t = s.copy();
                t.tray.remove((Integer) k);
                giveChange(t, left - values[k], ends, seen);
            }
        }
    }

    private void putIn(State s, List<Integer> given, int i, Set<Long> out) {
        if (i == given.size()) {
            out.add(s.number());
            return;
        }
        for (int p = 0; p < pipes; p++) {
            if (s.pipes.get(p).size() < length) {
                State t = s.copy();
                t.pipes.get(p).add(given.get(i));
                putIn(t, given, i + 1, out);
            }
        }
    }

    TreeSet<Long> told(long from, int c) throws NotTold {
        TreeSet<Long> all = allResults(from, c);
        if (all.size() > 1000) {
            throw new NotTold();
        }
        return all;
    }

    static long kth(TreeSet<Long> set, int k) {
        if (k == NONE) {
            return set.size();
        }
        return k < set.size() ? new ArrayList<>(set).get(k) : NONE;
    }

    long result(int c, int k) {
        if (k < NONE || !buyer(c)) {
            return NONE;
        }
        try {
            return kth(told(now.number(), c), k);
        } catch (NotTold e) {
            return HIDDEN;
        }
    }

    int serve(int c, int k) {
        if (!buyer(c) || k < 0) {
            return NONE;
        }
        try {
            long found = kth(told(now.number(), c), k);
            if (found == NONE) {
                return NONE;
            }
            now = State.of(found);
            return ++served[c];
        } catch (NotTold e) {
            return NONE;
        }
    }

    // ---- rows

    /** All orders of these customers, as numbers. */
    static List<List<Integer>> orders(List<Integer> of) {
        List<List<Integer>> out = new ArrayList<>();
        if (of.isEmpty()) {
            out.add(new ArrayList<>());
        }
        for (int first : of) {
            List<Integer> rest = new ArrayList<>(of);
            rest.remove((Integer) first);
            for (List<Integer> tail : orders(rest)) {
                List<Integer> one = new ArrayList<>();
                one.add(first);
                one.addAll(tail);
                out.add(one);
            }
        }
        return out;
    }

    static List<Integer> firstOnes(int m) {
        List<Integer> out = new ArrayList<>();
        for (int i = 0; i < m; i++) {
            out.add(i);
        }
        return out;
    }

    static int asNumber(List<Integer> order) {
        int n = 0;
        for (int c : order) {
            n = n * 10 + c;
        }
        return n;
    }

    List<Integer> orderOf(int row) {
        if (!buyers.isEmpty()) {
            for (List<Integer> one : orders(firstOnes(buyers.size()))) {
                if (asNumber(one) == row) {
                    return one;
                }
            }
        }
        return null;
    }

    TreeSet<Long> behind(long from, List<Integer> order) throws NotTold {
        TreeSet<Long> at = new TreeSet<>();
        at.add(from);
        for (int c : order) {
            TreeSet<Long> next = new TreeSet<>();
            for (long t : at) {
                next.addAll(told(t, c));
                if (next.size() > 200) {
                    throw new NotTold();
                }
            }
            at = next;
        }
        return at;
    }

    int row(int row) {
        List<Integer> order = orderOf(row);
        if (order == null) {
            return NONE;
        }
        try {
            return behind(now.number(), order).isEmpty() ? 0 : 1;
        } catch (NotTold e) {
            return HIDDEN;
        }
    }

    long left(int row, int k) {
        List<Integer> order = orderOf(row);
        if (order == null || k < NONE) {
            return NONE;
        }
        try {
            return kth(behind(now.number(), order), k);
        } catch (NotTold e) {
            return HIDDEN;
        }
    }

    static int stepsOf(List<Integer> order) {
        List<Integer> line = firstOnes(order.size());
        int steps = 0;
        for (int c : order) {
            while (line.get(0) != c) {
                line.add(line.remove(0));
                steps++;
            }
            line.remove(0);
        }
        return steps;
    }

    int aside(int what) {
        if (buyers.isEmpty() || what < 0 || what > 1) {
            return NONE;
        }
        List<List<Integer>> all = orders(firstOnes(buyers.size()));
        all.sort(Comparator.<List<Integer>>comparingInt(PlainTill::stepsOf).thenComparingInt(PlainTill::asNumber));
        try {
            for (List<Integer> one : all) {
                if (!behind(now.number(), one).isEmpty()) {
                    return what == 0 ? stepsOf(one) : asNumber(one);
                }
            }
            return NONE;
        } catch (NotTold e) {
            return HIDDEN;
        }
    }

    int steps(int row) {
        List<Integer> order = orderOf(row);
        return order == null ? NONE : stepsOf(order);
    }

    int most() {
        if (buyers.isEmpty()) {
            return NONE;
        }
        int n = buyers.size();
        try {
            int most = 0;
            for (int m = 1; m <= n; m++) {
                TreeSet<Long> all = new TreeSet<>();
                for (int choice = 0; choice < 1 << m; choice++) {
                    List<Integer> chosen = new ArrayList<>();
                    for (int c = 0; c < m; c++) {
                        if ((choice >> c & 1) == 1) {
                            chosen.add(c);
                        }
                    }
                    TreeSet<Long> got = behind(now.number(), chosen);
                    all.addAll(got);
                    if (!got.isEmpty()) {
                        most = Math.max(most, chosen.size());
                    }
                }
                if (all.size() > 200) {
                    return HIDDEN;
                }
            }
            return most;
        } catch (NotTold e) {
            return HIDDEN;
        }
    }

    long dawn(int m, int what) {
        if (m < 1 || m > 2 || m > buyers.size() || what < 0 || what > 1) {
            return NONE;
        }
        List<Long> tries = new ArrayList<>();
        for (int coins = 0; coins <= 3 && coins <= length; coins++) {
            TreeSet<Long> some = new TreeSet<>();
            lays(new State(), coins, some);
            tries.addAll(some);
        }
        try {
            for (long t : tries) {
                if (unserved(t, m) == NONE) {
                    return what == 0 ? State.of(t).coins() : t;
                }
            }
            return NONE;
        } catch (NotTold e) {
            return HIDDEN;
        }
    }

    private void lays(State s, int coins, Set<Long> out) {
        if (coins == 0) {
            out.add(s.number());
            return;
        }
        for (int k = 0; k < values.length; k++) {
            State t = s.copy();
            t.pipes.get(0).add(k);
            lays(t, coins - 1, out);
        }
    }

    private int unserved(long from, int m) throws NotTold {
        for (List<Integer> one : orders(firstOnes(m))) {
            if (behind(from, one).isEmpty()) {
                return asNumber(one);
            }
        }
        return NONE;
    }

    int breaks(int m) {
        if (m < 1 || m > buyers.size()) {
            return NONE;
        }
        try {
            return unserved(now.number(), m);
        } catch (NotTold e) {
            return HIDDEN;
        }
    }

    // ---- rules

    List<Integer> givenByRules(int c) {
        Buyer b = buyers.get(c);
        List<List<Integer>> sets = new ArrayList<>();
        for (int mask = 0; mask < 1 << b.purse.size(); mask++) {
            List<Integer> given = new ArrayList<>();
            for (int i = 0; i < b.purse.size(); i++) {
                if ((mask >> i & 1) == 1) {
                    given.add(b.purse.get(i));
                }
            }
            if (worth(given) >= b.price) {
                given.sort(Comparator.reverseOrder());
                sets.add(given);
            }
        }
        sets.sort((x, y) -> {
            if (worth(x) != worth(y)) {
                return worth(x) - worth(y);
            }
            if (x.size() != y.size()) {
                return x.size() - y.size();
            }
            for (int k = 3; k >= 0; k--) {
                int more = Collections.frequency(y, k) - Collections.frequency(x, k);
                if (more != 0) {
                    return more;
                }
            }
            return 0;
        });
        return sets.isEmpty() ? null : sets.get(0);
    }

    int worth(List<Integer> coins) {
        int sum = 0;
        for (int k : coins) {
            sum += values[k];
        }
        return sum;
    }

    int gives(int c, int k) {
        if (!buyer(c) || !kind(k) || givenByRules(c) == null) {
            return NONE;
        }
        return Collections.frequency(givenByRules(c), k);
    }

    /** The till behind, null if the customer is not served. */
    State servedBy(State from, String rule, int c) {
        List<Integer> given = givenByRules(c);
        if (given == null) {
            return null;
        }
        State s = from.copy();
        int left = worth(given) - buyers.get(c).price;
        while (left > 0) {
            int best = NONE;
            List<Integer> where = null;
            List<List<Integer>> places = new ArrayList<>(s.pipes);
            places.add(s.tray);
            for (List<Integer> place : places) {
                if (!place.isEmpty()) {
                    int k = place.get(place.size() - 1);
                    if (values[k] <= left && k > best) {
                        best = k;
                        where = place;
                    }
                }
            }
            if (where == null) {
                return null;
            }
            where.remove(where.size() - 1);
            left -= values[best];
        }
        for (int k : given) {
            int pipe = NONE;
            long most = Long.MIN_VALUE;
            for (int p = 0; p < pipes; p++) {
                List<Integer> lying = s.pipes.get(p);
                if (lying.size() < length) {
                    int top = lying.isEmpty() ? 0 : values[lying.get(lying.size() - 1)];
                    long w = PlainTexts.worth(rule, values[k], top, lying.size(), p, worth(lying),
                        s.pipes.get(1 - p).size());
                    if (w > most) {
                        most = w;
                        pipe = p;
                    }
                }
            }
            if (pipe == NONE) {
                return null;
            }
            s.pipes.get(pipe).add(k);
        }
        return s;
    }

    int by(int r, int c) {
        if (!rule(r) || !buyer(c)) {
            return NONE;
        }
        State s = servedBy(now, rules.get(r), c);
        if (s == null) {
            return 0;
        }
        now = s;
        served[c]++;
        return 1;
    }

    int many(String rule, List<Integer> coming) {
        State s = now;
        int n = 0;
        for (int c : coming) {
            State t = servedBy(s, rule, c);
            if (t != null) {
                s = t;
                n++;
            }
        }
        return n;
    }

    List<Integer> drawn(int n, long seed) {
        BigInteger all = BigInteger.ONE.shiftLeft(64);
        BigInteger x = BigInteger.valueOf(seed).mod(all);
        List<Integer> out = new ArrayList<>();
        for (int i = 0; i < n; i++) {
            x = x.multiply(new BigInteger("6364136223846793005")).add(new BigInteger("1442695040888963407")).mod(all);
            out.add(x.shiftRight(33).mod(BigInteger.valueOf(buyers.size())).intValue());
        }
        return out;
    }

    int run(int r, int row) {
        return rule(r) && orderOf(row) != null ? many(rules.get(r), orderOf(row)) : NONE;
    }

    int worst(int r, int what) {
        if (!rule(r) || buyers.isEmpty() || what < 0 || what > 1) {
            return NONE;
        }
        List<List<Integer>> all = orders(firstOnes(buyers.size()));
        List<Integer> least = Collections.min(all, Comparator.comparingInt(o -> many(rules.get(r), o)));
        return what == 0 ? many(rules.get(r), least) : asNumber(least);
    }

    int day(int r, int n, long seed) {
        if (!rule(r) || n < 1 || n > 60 || buyers.isEmpty()) {
            return NONE;
        }
        return many(rules.get(r), drawn(n, seed));
    }

    int best(int row, int n, long seed) {
        if (buyers.isEmpty() || n < 0 || n > 60 || n > 0 && row != NONE || n == 0 && orderOf(row) == null) {
            return NONE;
        }
        List<Integer> coming = n == 0 ? orderOf(row) : drawn(n, seed);
        int best = NONE;
        for (int r = 0; r < rules.size(); r++) {
            if (best == NONE || many(rules.get(r), coming) > many(rules.get(best), coming)) {
                best = r;
            }
        }
        return best;
    }

    int served(int c) {
        return buyer(c) ? served[c] : NONE;
    }

    // ---- the rest

    int cover(int k) {
        if (!kind(k)) {
            return NONE;
        }
        int fewest = now.tray.contains(k) ? 0 : Integer.MAX_VALUE;
        for (List<Integer> pipe : now.pipes) {
            for (int i = 0; i < pipe.size(); i++) {
                if (pipe.get(i) == k) {
                    fewest = Math.min(fewest, pipe.size() - 1 - i);
                }
            }
        }
        return fewest == Integer.MAX_VALUE ? NONE : fewest;
    }

    /** The fewest moves, or a great number. */
    private int lifts(State s, int left) {
        if (left == 0) {
            return 0;
        }
        int fewest = 1000;
        for (int p = 0; p < 2; p++) {
            if (!s.pipes.get(p).isEmpty()) {
                State t = s.copy();
                int k = t.pipes.get(p).remove(t.pipes.get(p).size() - 1);
                if (values[k] <= left) {
                    fewest = Math.min(fewest, 1 + lifts(t, left - values[k]));
                }
                if (t.tray.size() < trayRoom) {
                    t.tray.add(k);
                    fewest = Math.min(fewest, 1 + lifts(t, left));
                }
            }
        }
        for (int k : s.tray) {
            if (values[k] <= left) {
                State t = s.copy();
                t.tray.remove((Integer) k);
                fewest = Math.min(fewest, 1 + lifts(t, left - values[k]));
            }
        }
        return fewest;
    }

    int change(int much, int what) {
        if (values.length == 0 || much < 1 || much > 99 || what < 0 || what > 1) {
            return HIDDEN;
        }
        int fewest = lifts(now, much);
        if (what == 0) {
            return fewest < 1000 ? 1 : 0;
        }
        return fewest < 1000 ? fewest : NONE;
    }

    int amounts() {
        if (values.length == 0) {
            return NONE;
        }
        int n = 0;
        for (int much = 1; much <= 99; much++) {
            Set<Long> ends = new HashSet<>();
            giveChange(now.copy(), much, ends, new HashSet<>());
            n += ends.isEmpty() ? 0 : 1;
        }
        return n;
    }

    int helps(int c) {
        return othersFor(c, true);
    }

    int spoils(int c) {
        return othersFor(c, false);
    }

    private int othersFor(int c, boolean help) {
        if (!buyer(c)) {
            return NONE;
        }
        try {
            if (told(now.number(), c).isEmpty() != help) {
                return NONE;
            }
            int bits = 0;
            for (int d = 0; d < buyers.size(); d++) {
                if (d != c) {
                    TreeSet<Long> mid = told(now.number(), d);
                    int able = 0;
                    for (long t : mid) {
                        able += told(t, c).isEmpty() ? 0 : 1;
                    }
                    if (help ? able > 0 : !mid.isEmpty() && able == 0) {
                        bits |= 1 << d;
                    }
                }
            }
            return bits;
        } catch (NotTold e) {
            return HIDDEN;
        }
    }

    int wise(int c, int what) {
        if (!buyer(c) || what < 0 || what > 1) {
            return NONE;
        }
        try {
            int k = 0;
            int found = NONE;
            int most = NONE;
            for (long t : told(now.number(), c)) {
                int able = 0;
                for (int d = 0; d < buyers.size(); d++) {
                    able += d != c && !told(t, d).isEmpty() ? 1 : 0;
                }
                if (able > most) {
                    most = able;
                    found = k;
                }
                k++;
            }
            return what == 0 ? found : most;
        } catch (NotTold e) {
            return HIDDEN;
        }
    }

    int rich(int c, int what) {
        if (!buyer(c) || what < 0 || what > 1) {
            return NONE;
        }
        try {
            List<Long> all = new ArrayList<>(told(now.number(), c));
            if (all.isEmpty()) {
                return NONE;
            }
            Comparator<Long> coins = Comparator.comparingInt(t -> State.of(t).coins());
            return all.indexOf(what == 0 ? Collections.min(all, coins.reversed()) : Collections.min(all, coins));
        } catch (NotTold e) {
            return HIDDEN;
        }
    }

    int chain() {
        if (buyers.isEmpty()) {
            return NONE;
        }
        try {
            int best = 0;
            for (int bits = 1; bits < 1 << buyers.size(); bits++) {
                List<Integer> set = new ArrayList<>();
                for (int c = 0; c < buyers.size(); c++) {
                    if ((bits >> c & 1) == 1) {
                        set.add(c);
                    }
                }
                boolean able = false;
                for (List<Integer> one : orders(set)) {
                    able |= !behind(now.number(), one).isEmpty();
                }
                if (able && Integer.bitCount(bits) > Integer.bitCount(best)) {
                    best = bits;
                }
            }
            return best;
        } catch (NotTold e) {
            return HIDDEN;
        }
    }

    int mean(int r, int n, int k, int what) {
        if (!rule(r) || n < 1 || n > 60 || k < 1 || k > 20 || what < 0 || what > 1 || buyers.isEmpty()) {
            return NONE;
        }
        List<Integer> all = new ArrayList<>();
        for (int seed = 0; seed < k; seed++) {
            all.add(day(r, n, seed));
        }
        int sum = 0;
        for (int one : all) {
            sum += one;
        }
        return what == 0 ? sum : Collections.max(all) - Collections.min(all);
    }

    int image() {
        if (values.length == 0) {
            return NONE;
        }
        imageState = now.copy();
        imageServed = served.clone();
        return now.coins();
    }

    int back() {
        if (imageState == null) {
            return NONE;
        }
        now = imageState.copy();
        served = imageServed.clone();
        return now.coins();
    }

    int count(int what) {
        int[] all = {values.length, pipes, length, trayRoom, buyers.size(), rules.size(), tape.length(), now.coins()};
        return what >= 0 && what < all.length ? all[what] : HIDDEN;
    }
}
