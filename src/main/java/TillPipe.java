import java.util.Arrays;
import java.util.NoSuchElementException;

/** A shop whose till is one or two pipes and a tray; see the project's README. */
public final class TillPipe {
    public static final int NONE = -1;
    public static final int HIDDEN = -2;

    private static final int MOST_CUSTOMERS = 4;
    private static final int MOST_RULES = 4;
    private static final int MOST_RESULTS = 1000;
    private static final int TRAY_PLACE = 2;
    private static final int MOST_MUCH = 99;
    private static final int MOST_DRAWN = 60;
    private static final int MOST_SEEDS = 20;
    private static final int MOST_FLOAT_CUSTOMERS = 2;

    private final Tape tape = new Tape();
    private final Shop shop = new Shop();
    private final Shop shopRead = new Shop();
    private final Customer customerRead = new Customer();
    private final Rule ruleRead = new Rule(Rule.ROOM);
    private final Customer[] customers = newCustomers();
    private int customersTold;
    private final Rule[] rules = newRules();
    private int rulesTold;
    private int standing;
    private final int[] timesServed = new int[MOST_CUSTOMERS];
    private boolean imageKept;
    private int imageTill;
    private final int[] imageServed = new int[MOST_CUSTOMERS];
    private final Payings payings = new Payings(shop);
    private final TillSet results = new TillSet(MOST_RESULTS);
    private final Rows rows = new Rows(shop, payings, customers);
    private final Advice advice = new Advice(payings, customers, results);
    private final Baker baker = new Baker(shop, customers);
    private final Order order = new Order();

    public TillPipe() {
    }

    private static Customer[] newCustomers() {
        Customer[] all = new Customer[MOST_CUSTOMERS];
        for (int i = 0; i < MOST_CUSTOMERS; i++) {
            all[i] = new Customer();
        }
        return all;
    }

    private static Rule[] newRules() {
        Rule[] all = new Rule[MOST_RULES];
        for (int i = 0; i < MOST_RULES; i++) {
            all[i] = new Rule(0);
        }
        return all;
    }

    public int feed(int a, int b, int c, int d, int e) {
        int end = tape.append(tape.length, a);
        end = tape.append(end, b);
        end = tape.append(end, c);
        end = tape.append(end, d);
        end = tape.append(end, e);
        if (end > Tape.ROOM) {
            return NONE;
        }
        tape.length = end;
        return end;
    }

    public boolean end(int n) {
        if (n < 0 || n > tape.length) {
            return false;
        }
        tape.length = n;
        return true;
    }

    public int fault(int sort) {
        tape.at = 0;
        boolean fine;
        switch (sort) {
            case 0:
                fine = shopRead.reads(tape);
                break;
            case 1:
                fine = customerRead.reads(tape, shop);
                break;
            case 2:
                fine = ruleRead.reads(tape);
                break;
            default:
                return HIDDEN;
        }
        return fine && tape.sign() == Tape.END ? NONE : tape.at;
    }

    public int text(int sort) {
        if (fault(sort) != NONE) {
            return NONE;
        }
        int told = sort == 0 ? opensShop() : sort == 1 ? addsCustomer() : addsRule();
        if (told != NONE) {
            tape.length = 0;
        }
        return told;
    }

    private int opensShop() {
        shop.become(shopRead);
        customersTold = 0;
        standing = 0;
        imageKept = false;
        Arrays.fill(timesServed, 0);
        return shop.kinds;
    }

    private int addsCustomer() {
        if (!shop.isOpen() || customersTold >= MOST_CUSTOMERS) {
            return NONE;
        }
        customers[customersTold].become(customerRead, shop);
        return customersTold++;
    }

    private int addsRule() {
        if (rulesTold >= MOST_RULES) {
            return NONE;
        }
        rules[rulesTold].become(ruleRead);
        return rulesTold++;
    }

    public int value(int kind) throws NoSuchElementException {
        if (!shop.hasKind(kind)) {
            throw new NoSuchElementException("no such kind");
        }
        return shop.worths[kind + 1];
    }

    public int customer(int customer, int kind) {
        if (!isCustomer(customer)) {
            return NONE;
        }
        if (kind == NONE) {
            return customers[customer].price;
        }
        return shop.hasKind(kind) ? customers[customer].carries(kind) : NONE;
    }

    public boolean lay(int kind, int where) {
        if (!shop.hasKind(kind)) {
            return false;
        }
        int lying = Tills.trayOf(standing);
        if (where == TRAY_PLACE) {
            if (Integer.bitCount(lying) >= shop.trayRoom) {
                return false;
            }
            standing += 1 << kind;
            return true;
        }
        if (!shop.hasPipe(where) || Tills.height(Tills.pipeOf(standing, where)) >= shop.length) {
            return false;
        }
        int pipe = Tills.pipeOf(standing, where) * Tills.BASE + kind + 1;
        standing = Tills.withPipe(standing, where, pipe);
        return true;
    }

    public int lift(int pipe) {
        if (!shop.hasPipe(pipe)) {
            return NONE;
        }
        int lying = Tills.pipeOf(standing, pipe);
        if (lying == 0) {
            return NONE;
        }
        standing = Tills.withPipe(standing, pipe, lying / Tills.BASE);
        return lying % Tills.BASE - 1;
    }

    public int coin(int pipe, int i) {
        if (!shop.hasPipe(pipe)) {
            return NONE;
        }
        int lying = Tills.pipeOf(standing, pipe);
        int height = Tills.height(lying);
        if (i < 0 || i >= height) {
            return NONE;
        }
        for (int above = height - 1; above > i; above--) {
            lying /= Tills.BASE;
        }
        return lying % Tills.BASE - 1;
    }

    public int tray(int kind) {
        return shop.hasKind(kind) ? Tills.trayOf(standing) >> kind & 1 : NONE;
    }

    public long till() {
        return shop.isOpen() ? standing : NONE;
    }

    public long result(int customer, int k) {
        if (k < NONE || !isCustomer(customer)) {
            return NONE;
        }
        if (!findsResults(customer)) {
            return HIDDEN;
        }
        return results.answer(k);
    }

    public int serve(int customer, int k) {
        if (k < 0 || !isCustomer(customer) || !findsResults(customer) || k >= results.size) {
            return NONE;
        }
        standing = results.tills[k];
        timesServed[customer]++;
        return timesServed[customer];
    }

    private boolean findsResults(int customer) {
        results.size = 0;
        if (!payings.collect(standing, customers[customer], results)) {
            return false;
        }
        results.sort();
        return true;
    }

    public int row(int row) {
        if (!order.reads(row, customersTold)) {
            return NONE;
        }
        return rows.goesThrough(standing, order);
    }

    public long left(int row, int k) {
        if (k < NONE || !order.reads(row, customersTold)) {
            return NONE;
        }
        if (rows.goesThrough(standing, order) == HIDDEN) {
            return HIDDEN;
        }
        TillSet last = rows.behind(order.size);
        last.sort();
        return last.answer(k);
    }

    public int aside(int what) {
        if (what < 0 || what > 1 || customersTold == 0) {
            return NONE;
        }
        int found = rows.fewestTurns(standing, customersTold, order);
        return found < 0 || what == 0 ? found : order.asNumber();
    }

    public int steps(int row) {
        return order.reads(row, customersTold) ? order.turns() : NONE;
    }

    public int most() {
        return customersTold == 0 ? NONE : rows.mostInLine(standing, customersTold);
    }

    public long dawn(int m, int what) {
        if (what < 0 || what > 1 || m < 1 || m > MOST_FLOAT_CUSTOMERS || m > customersTold) {
            return NONE;
        }
        int found = rows.leastFloat(m, order);
        return found < 0 || what == 1 ? found : Tills.coinsIn(found);
    }

    public int breaks(int m) {
        if (m < 1 || m > customersTold) {
            return NONE;
        }
        return rows.firstUnserved(standing, m, order);
    }

    public int by(int rule, int customer) {
        if (!isRule(rule) || !isCustomer(customer)) {
            return NONE;
        }
        int behind = baker.tillBehind(standing, customer, rules[rule]);
        if (behind == NONE) {
            return 0;
        }
        standing = behind;
        timesServed[customer]++;
        return 1;
    }

    public int gives(int customer, int kind) {
        if (!isCustomer(customer) || !shop.hasKind(kind)) {
            return NONE;
        }
        return customers[customer].givesByRules(kind);
    }

    public int run(int rule, int row) {
        if (!isRule(rule) || !order.reads(row, customersTold)) {
            return NONE;
        }
        return baker.servedOfRow(standing, rules[rule], order);
    }

    public int worst(int rule, int what) {
        if (!isRule(rule) || what < 0 || what > 1 || customersTold == 0) {
            return NONE;
        }
        int fewest = MOST_CUSTOMERS + 1;
        int first = NONE;
        order.starts(customersTold);
        for (int i = 0; i < Order.MOST_ORDERS; i++) {
            int now = baker.servedOfRow(standing, rules[rule], order);
            if (now < fewest) {
                fewest = now;
                first = order.asNumber();
            }
            if (!order.advances()) {
                break;
            }
        }
        return what == 0 ? fewest : first;
    }

    public int day(int rule, int n, long seed) {
        if (!isRule(rule) || n < 1 || n > MOST_DRAWN || customersTold == 0) {
            return NONE;
        }
        return baker.servedOfDay(standing, rules[rule], n, seed, customersTold);
    }

    public int best(int row, int n, long seed) {
        boolean byRow = n == 0 && order.reads(row, customersTold);
        boolean byDay = n >= 1 && n <= MOST_DRAWN && row == NONE && customersTold > 0;
        if (!byRow && !byDay) {
            return NONE;
        }
        int found = NONE;
        int most = NONE;
        for (int rule = 0; rule < rulesTold; rule++) {
            int now = byRow
                ? baker.servedOfRow(standing, rules[rule], order)
                : baker.servedOfDay(standing, rules[rule], n, seed, customersTold);
            if (now > most) {
                most = now;
                found = rule;
            }
        }
        return found;
    }

    public int served(int customer) {
        return isCustomer(customer) ? timesServed[customer] : NONE;
    }

    public int cover(int kind) {
        if (!shop.hasKind(kind)) {
            return NONE;
        }
        if ((Tills.trayOf(standing) >> kind & 1) == 1) {
            return 0;
        }
        int first = Tills.coinsAbove(Tills.pipeOf(standing, 0), kind);
        int second = Tills.coinsAbove(Tills.pipeOf(standing, 1), kind);
        if (first == NONE || second == NONE) {
            return Math.max(first, second);
        }
        return Math.min(first, second);
    }

    public int change(int much, int what) {
        if (!shop.isOpen() || much < 1 || much > MOST_MUCH || what < 0 || what > 1) {
            return HIDDEN;
        }
        payings.startsFrom(standing);
        int moves = payings.search(much);
        if (what == 1) {
            return moves;
        }
        return moves == NONE ? 0 : 1;
    }

    public int amounts() {
        if (!shop.isOpen()) {
            return NONE;
        }
        payings.startsFrom(standing);
        int able = 0;
        for (int much = 1; much <= MOST_MUCH; much++) {
            if (payings.search(much) != NONE) {
                able++;
            }
        }
        return able;
    }

    public int helps(int customer) {
        return isCustomer(customer) ? advice.helpers(standing, customer, customersTold) : NONE;
    }

    public int spoils(int customer) {
        return isCustomer(customer) ? advice.spoilers(standing, customer, customersTold) : NONE;
    }

    public int wise(int customer, int what) {
        if (what < 0 || what > 1 || !isCustomer(customer)) {
            return NONE;
        }
        if (!findsResults(customer)) {
            return HIDDEN;
        }
        return advice.wisest(customer, customersTold, what);
    }

    public int rich(int customer, int what) {
        if (what < 0 || what > 1 || !isCustomer(customer)) {
            return NONE;
        }
        if (!findsResults(customer)) {
            return HIDDEN;
        }
        return what == 0 ? results.fullest() : results.emptiest();
    }

    public int chain() {
        return customersTold == 0 ? NONE : rows.greatestSet(standing, customersTold);
    }

    public int mean(int rule, int n, int k, int what) {
        if (!isRule(rule) || n < 1 || n > MOST_DRAWN || k < 1 || k > MOST_SEEDS
            || what < 0 || what > 1 || customersTold == 0) {
            return NONE;
        }
        int together = 0;
        int fewest = n;
        int most = 0;
        for (int seed = 0; seed < k; seed++) {
            int now = baker.servedOfDay(standing, rules[rule], n, seed, customersTold);
            together += now;
            fewest = Math.min(fewest, now);
            most = Math.max(most, now);
        }
        return what == 0 ? together : most - fewest;
    }

    public int image() {
        if (!shop.isOpen()) {
            return NONE;
        }
        imageKept = true;
        imageTill = standing;
        System.arraycopy(timesServed, 0, imageServed, 0, MOST_CUSTOMERS);
        return Tills.coinsIn(standing);
    }

    public int back() {
        if (!imageKept) {
            return NONE;
        }
        standing = imageTill;
        System.arraycopy(imageServed, 0, timesServed, 0, MOST_CUSTOMERS);
        return Tills.coinsIn(standing);
    }

    public int count(int what) {
        switch (what) {
            case 0:
                return shop.kinds;
            case 1:
                return shop.pipes;
            case 2:
                return shop.length;
            case 3:
                return shop.trayRoom;
            case 4:
                return customersTold;
            case 5:
                return rulesTold;
            case 6:
                return tape.length;
            case 7:
                return Tills.coinsIn(standing);
            default:
                return HIDDEN;
        }
    }

    private boolean isCustomer(int customer) {
        return customer >= 0 && customer < customersTold;
    }

    private boolean isRule(int rule) {
        return rule >= 0 && rule < rulesTold;
    }

    /** The bytes that were fed; texts are read from it, and at stands at the FAULT when one can't be. */
    private static final class Tape {
        static final int ROOM = 160;
        static final int END = -1;

        final int[] bytes = new int[ROOM];
        int length;
        int at;

        /** Bytes behind the length do not count, so that a feed that proves too long leaves no trace. */
        int append(int from, int four) {
            int end = from;
            for (int shift = 24; shift >= 0; shift -= 8) {
                int one = four >>> shift & 255;
                if (one != 0) {
                    if (end >= 0 && end < ROOM) {
                        bytes[end] = one;
                    }
                    end++;
                }
            }
            return end;
        }

        int sign() {
            while (at < length && bytes[at] == ' ') {
                at++;
            }
            return at < length ? bytes[at] : END;
        }

        boolean accepts(int wanted) {
            if (sign() != wanted) {
                return false;
            }
            at++;
            return true;
        }

        private static boolean isDigit(int sign) {
            return sign >= '0' && sign <= '9';
        }

        /** A digit too many is left to who reads on: none can stand behind a number. */
        int digits(int most) {
            if (!isDigit(sign())) {
                return NONE;
            }
            int number = 0;
            for (int i = 0; i < most && at < length && isDigit(bytes[at]); i++) {
                number = number * 10 + bytes[at] - '0';
                at++;
            }
            return number;
        }

        /** A third digit is the number's fault, whatever the two ahead of it say. */
        int bounded(int least, int most) {
            int number = digits(2);
            if (number == NONE || at < length && isDigit(bytes[at])) {
                return NONE;
            }
            if (number < least || number > most) {
                at--;
                return NONE;
            }
            return number;
        }
    }

    /** What a shop's text tells; without one all is 0. */
    private static final class Shop {
        static final int MOST_KINDS = 4;
        static final int MOST_LENGTH = 5;
        static final int MOST_PIPES = 2;
        private static final int MOST_VALUE = 99;
        private static final int PARTS = 3;

        /** By digits (a kind and 1), as pipes are told; 0 is no coin. */
        final int[] worths = new int[MOST_KINDS + 1];
        int kinds;
        int pipes;
        int length;
        int trayRoom;

        boolean isOpen() {
            return kinds > 0;
        }

        boolean hasKind(int kind) {
            return kind >= 0 && kind < kinds;
        }

        boolean hasPipe(int pipe) {
            return pipe >= 0 && pipe < pipes;
        }

        void become(Shop told) {
            System.arraycopy(told.worths, 0, worths, 0, worths.length);
            kinds = told.kinds;
            pipes = told.pipes;
            length = told.length;
            trayRoom = told.trayRoom;
        }

        boolean reads(Tape tape) {
            pipes = 1;
            length = MOST_LENGTH;
            trayRoom = 1;
            return tape.accepts('c') && readsValues(tape) && readsParts(tape);
        }

        private boolean readsValues(Tape tape) {
            for (int kind = 0; kind < MOST_KINDS; kind++) {
                int worth = tape.bounded(worths[kind] + 1, MOST_VALUE);
                if (worth == NONE) {
                    return false;
                }
                worths[kind + 1] = worth;
                kinds = kind + 1;
                if (kinds == MOST_KINDS || !tape.accepts(',')) {
                    return true;
                }
            }
            return true;
        }

        private boolean readsParts(Tape tape) {
            int next = 0;
            for (int i = 0; i < PARTS && next < PARTS && tape.accepts(';'); i++) {
                int part = partOf(tape.sign());
                if (part < next) {
                    return false;
                }
                tape.at++;
                if (!readsPart(part, tape)) {
                    return false;
                }
                next = part + 1;
            }
            return true;
        }

        private static int partOf(int letter) {
            return letter == 'p' ? 0 : letter == 'l' ? 1 : letter == 't' ? 2 : NONE;
        }

        private boolean readsPart(int part, Tape tape) {
            int least = part == 2 ? 0 : 1;
            int most = part == 0 ? MOST_PIPES : part == 1 ? MOST_LENGTH : 1;
            int number = tape.bounded(least, most);
            if (number == NONE) {
                return false;
            }
            if (part == 0) {
                pipes = number;
            } else if (part == 1) {
                length = number;
            } else {
                trayRoom = number;
            }
            return true;
        }
    }

    /** A price, a purse, and all sets of the purse that are enough. */
    private static final class Customer {
        static final int MOST_COINS = 4;
        private static final int MOST_PRICE = 99;
        private static final int MOST_SETS = 15;

        int price;
        /** Digits (a kind and 1), the greatest first. */
        private final int[] purse = new int[MOST_COINS];
        private int coins;
        int sets;
        /** Digits of each set, the greatest first, MOST_COINS places for each. */
        final int[] hands = new int[MOST_SETS * MOST_COINS];
        final int[] handSizes = new int[MOST_SETS];
        final int[] spares = new int[MOST_SETS];
        /** The set that it gives by rules. */
        int chosen = NONE;

        boolean reads(Tape tape, Shop shop) {
            price = tape.bounded(1, MOST_PRICE);
            if (price == NONE || !tape.accepts(':')) {
                return false;
            }
            int kinds = shop.isOpen() ? shop.kinds : Shop.MOST_KINDS;
            coins = 0;
            for (int i = 0; i < MOST_COINS; i++) {
                int kind = tape.sign() - 'a';
                if (kind < 0 || kind >= kinds) {
                    return i > 0;
                }
                addCoin(kind + 1);
                tape.at++;
            }
            return true;
        }

        private void addCoin(int digit) {
            if (coins >= MOST_COINS) {
                return;
            }
            int place = coins;
            for (; place > 0 && purse[place - 1] < digit; place--) {
                purse[place] = purse[place - 1];
            }
            purse[place] = digit;
            coins++;
        }

        void become(Customer told, Shop shop) {
            price = told.price;
            coins = told.coins;
            System.arraycopy(told.purse, 0, purse, 0, MOST_COINS);
            sets = 0;
            chosen = NONE;
            for (int mask = 1; mask < 1 << coins; mask++) {
                addSet(mask, shop);
            }
        }

        private void addSet(int mask, Shop shop) {
            if (sets >= MOST_SETS) {
                return;
            }
            int size = 0;
            int together = 0;
            for (int i = 0; i < coins; i++) {
                if ((mask >> i & 1) == 1) {
                    if (i > 0 && purse[i] == purse[i - 1] && (mask >> i - 1 & 1) == 0) {
                        return; // the same set stands under a mask with the earlier coin
                    }
                    hands[sets * MOST_COINS + size] = purse[i];
                    size++;
                    together += shop.worths[purse[i]];
                }
            }
            if (together < price) {
                return;
            }
            handSizes[sets] = size;
            spares[sets] = together - price;
            if (chosen == NONE || isBetter(sets, chosen)) {
                chosen = sets;
            }
            sets++;
        }

        private boolean isBetter(int one, int other) {
            if (spares[one] != spares[other]) {
                return spares[one] < spares[other];
            }
            if (handSizes[one] != handSizes[other]) {
                return handSizes[one] < handSizes[other];
            }
            for (int i = 0; i < handSizes[one]; i++) {
                int here = hands[one * MOST_COINS + i];
                int there = hands[other * MOST_COINS + i];
                if (here != there) {
                    return here > there;
                }
            }
            return false;
        }

        int carries(int kind) {
            int found = 0;
            for (int i = 0; i < coins; i++) {
                if (purse[i] == kind + 1) {
                    found++;
                }
            }
            return found;
        }

        int givesByRules(int kind) {
            if (chosen == NONE) {
                return NONE;
            }
            int found = 0;
            for (int i = 0; i < handSizes[chosen]; i++) {
                if (hands[chosen * MOST_COINS + i] == kind + 1) {
                    found++;
                }
            }
            return found;
        }
    }

    /**
     * A rule as signs in the order in which they are reckoned on a stack, operands ahead: a sign of 0
     * or more is a number, one below 0 is one of those here.
     */
    private static final class Rule {
        /** Each byte of a text makes a sign at most, but for ANSWER at the end. */
        static final int ROOM = Tape.ROOM + 1;
        static final int LETTER_COUNT = 6;
        private static final int PLUS = -1;
        private static final int MINUS = -2;
        private static final int TIMES = -3;
        private static final int PARTS = -4;
        private static final int SAME = -5;
        private static final int LESS = -6;
        private static final int MORE = -7;
        private static final int AND = -8;
        private static final int OR = -9;
        private static final int NOT = -10;
        private static final int UNLESS = -11;
        private static final int ANSWER = -12;
        /** This sign and the five below it: letters v t n i s o. */
        private static final int LETTERS = -13;
        private static final int MOST_DIGITS = 4;
        private static final int MOST_DEPTH = 6;
        private static final long BOUND = 1000000L;

        private int[] code;
        private int size;

        Rule(int room) {
            code = new int[Math.max(0, room)];
        }

        void become(Rule told) {
            size = Math.max(0, Math.min(told.size, told.code.length));
            code = Arrays.copyOf(told.code, size);
        }

        boolean reads(Tape tape) {
            size = 0;
            for (int i = 0; i < Tape.ROOM; i++) {
                if (!readsClause(tape)) {
                    return false;
                }
                if (!tape.accepts(';')) {
                    return true;
                }
            }
            return true;
        }

        private void emit(int sign) {
            if (size < code.length) {
                code[size] = sign;
                size++;
            }
        }

        private boolean readsClause(Tape tape) {
            if (!tape.accepts('y') || !tape.accepts(':')) {
                return false;
            }
            int first = tape.sign();
            boolean begun = first != '!' && first != '(';
            if (begun) {
                if (!readsSum(tape, 0)) {
                    return false;
                }
                if (comparison(tape.sign()) == 0) {
                    emit(ANSWER);
                    return true;
                }
            }
            if (!readsCondition(tape, 0, begun) || !tape.accepts('?')) {
                return false;
            }
            emit(UNLESS);
            if (!readsSum(tape, 0)) {
                return false;
            }
            emit(ANSWER);
            return true;
        }

        /** With begun, the first SUM has been read: only behind it is a CONDITION told from a SUM. */
        private boolean readsCondition(Tape tape, int depth, boolean begun) {
            if (!readsTruth(tape, depth, begun)) {
                return false;
            }
            for (int i = 0; i < Tape.ROOM && tape.accepts('|'); i++) {
                if (!readsTruth(tape, depth, false)) {
                    return false;
                }
                emit(OR);
            }
            return true;
        }

        private boolean readsTruth(Tape tape, int depth, boolean begun) {
            if (!readsUnit(tape, depth, begun)) {
                return false;
            }
            for (int i = 0; i < Tape.ROOM && tape.accepts('&'); i++) {
                if (!readsUnit(tape, depth, false)) {
                    return false;
                }
                emit(AND);
            }
            return true;
        }

        private boolean readsUnit(Tape tape, int depth, boolean begun) {
            if (!begun) {
                int first = tape.sign();
                if (first == '!' || first == '(') {
                    return readsInner(tape, depth, first);
                }
                if (!readsSum(tape, depth)) {
                    return false;
                }
            }
            int how = comparison(tape.sign());
            if (how == 0) {
                return false;
            }
            tape.at++;
            if (!readsSum(tape, depth)) {
                return false;
            }
            emit(how);
            return true;
        }

        private boolean readsInner(Tape tape, int depth, int first) {
            if (depth >= MOST_DEPTH) {
                return false;
            }
            tape.at++;
            if (first == '(') {
                return readsCondition(tape, depth + 1, false) && tape.accepts(')');
            }
            if (!readsUnit(tape, depth + 1, false)) {
                return false;
            }
            emit(NOT);
            return true;
        }

        private boolean readsSum(Tape tape, int depth) {
            if (!readsTerm(tape, depth)) {
                return false;
            }
            for (int i = 0; i < Tape.ROOM; i++) {
                int sign = tape.sign();
                if (sign != '+' && sign != '-') {
                    return true;
                }
                tape.at++;
                if (!readsTerm(tape, depth)) {
                    return false;
                }
                emit(sign == '+' ? PLUS : MINUS);
            }
            return true;
        }

        private boolean readsTerm(Tape tape, int depth) {
            if (!readsAtom(tape, depth)) {
                return false;
            }
            for (int i = 0; i < Tape.ROOM; i++) {
                int sign = tape.sign();
                if (sign != '*' && sign != '/') {
                    return true;
                }
                tape.at++;
                if (!readsAtom(tape, depth)) {
                    return false;
                }
                emit(sign == '*' ? TIMES : PARTS);
            }
            return true;
        }

        private boolean readsAtom(Tape tape, int depth) {
            int first = tape.sign();
            if (first == '[') {
                if (depth >= MOST_DEPTH) {
                    return false;
                }
                tape.at++;
                return readsSum(tape, depth + 1) && tape.accepts(']');
            }
            int letter = letterOf(first);
            if (letter != NONE) {
                tape.at++;
                emit(LETTERS - letter);
                return true;
            }
            int number = tape.digits(MOST_DIGITS);
            if (number == NONE) {
                return false;
            }
            emit(number);
            return true;
        }

        private static int comparison(int sign) {
            return sign == '=' ? SAME : sign == '<' ? LESS : sign == '>' ? MORE : 0;
        }

        private static int letterOf(int sign) {
            switch (sign) {
                case 'v':
                    return 0;
                case 't':
                    return 1;
                case 'n':
                    return 2;
                case 'i':
                    return 3;
                case 's':
                    return 4;
                case 'o':
                    return 5;
                default:
                    return NONE;
            }
        }

        int worth(int[] letters, int[] stack) {
            int top = 0;
            for (int i = 0; i < size && i < code.length; i++) {
                int sign = code[i];
                if (sign >= 0 || sign <= LETTERS) {
                    int letter = LETTERS - sign;
                    if (top >= stack.length || letter >= letters.length) {
                        return 0;
                    }
                    stack[top] = sign >= 0 ? sign : letters[letter];
                    top++;
                } else if (top < 1) {
                    return 0;
                } else if (sign == ANSWER) {
                    return stack[top - 1];
                } else if (sign == UNLESS) {
                    top--;
                    if (stack[top] == 0) {
                        i = nextAnswer(i);
                    }
                } else if (sign == NOT) {
                    stack[top - 1] = 1 - stack[top - 1];
                } else if (top < 2) {
                    return 0;
                } else {
                    top--;
                    stack[top - 1] = reckon(sign, stack[top - 1], stack[top]);
                }
            }
            return 0;
        }

        private int nextAnswer(int from) {
            for (int i = from; i < size; i++) {
                if (code[i] == ANSWER) {
                    return i;
                }
            }
            return size;
        }

        private static int reckon(int sign, int a, int b) {
            switch (sign) {
                case PLUS:
                    return within((long) a + b);
                case MINUS:
                    return within((long) a - b);
                case TIMES:
                    return within((long) a * b);
                case PARTS:
                    return b == 0 ? 0 : a / b;
                case SAME:
                    return a == b ? 1 : 0;
                case LESS:
                    return a < b ? 1 : 0;
                case MORE:
                    return a > b ? 1 : 0;
                case AND:
                    return a & b;
                default:
                    return a | b;
            }
        }

        private static int within(long number) {
            return (int) Math.max(-BOUND, Math.min(BOUND, number));
        }
    }

    /** Arithmetic of a till's NUMBER: its pipes' coins are digits, so a till is one int. */
    private static final class Tills {
        static final int BASE = 5;
        private static final int TRAY_BASE = 16;
        private static final int PIPE_BASE = 3125;

        static int number(int first, int second, int tray) {
            return (first * PIPE_BASE + second) * TRAY_BASE + tray;
        }

        static int pipeOf(int till, int pipe) {
            int both = till / TRAY_BASE;
            return pipe == 0 ? both / PIPE_BASE : both % PIPE_BASE;
        }

        static int trayOf(int till) {
            return till % TRAY_BASE;
        }

        static int withPipe(int till, int pipe, int lying) {
            return pipe == 0
                ? number(lying, pipeOf(till, 1), trayOf(till))
                : number(pipeOf(till, 0), lying, trayOf(till));
        }

        /** No digit of a pipe is 0, so its size tells how many there are. */
        static int height(int pipe) {
            if (pipe < BASE) {
                return pipe == 0 ? 0 : 1;
            }
            if (pipe < BASE * BASE) {
                return 2;
            }
            if (pipe < BASE * BASE * BASE) {
                return 3;
            }
            return pipe < BASE * BASE * BASE * BASE ? 4 : 5;
        }

        static int coinsIn(int till) {
            return height(pipeOf(till, 0)) + height(pipeOf(till, 1)) + Integer.bitCount(trayOf(till));
        }

        static int coinsAbove(int pipe, int kind) {
            int lying = pipe;
            for (int above = 0; above < Shop.MOST_LENGTH && lying > 0; above++) {
                if (lying % BASE == kind + 1) {
                    return above;
                }
                lying /= BASE;
            }
            return NONE;
        }

        static int digitOnTray(int tray) {
            for (int kind = 0; kind < Shop.MOST_KINDS; kind++) {
                if ((tray >> kind & 1) == 1) {
                    return kind + 1;
                }
            }
            return 0;
        }

        static int trayWith(int digit) {
            return digit == 0 ? 0 : 1 << digit - 1;
        }
    }

    /**
     * A set of tills up to a limit. A slot counts only if the till that it names names it too, so
     * that size = 0 empties the set without a walk over its slots.
     */
    private static final class TillSet {
        private static final int SCATTER = 0x9E3779B1;

        private final int limit;
        private final int shift;
        private final int[] slots;
        private final int[] homes;
        final int[] tills;
        int size;

        TillSet(int most) {
            limit = Math.max(1, most);
            int bits = 33 - Integer.numberOfLeadingZeros(limit);
            shift = 32 - bits;
            slots = new int[1 << bits];
            homes = new int[limit];
            tills = new int[limit];
        }

        /** The till's place, or NONE if it would be one more than the limit. */
        int add(int till) {
            int slot = till * SCATTER >>> shift;
            for (int i = 0; i < slots.length; i++) {
                int place = slots[slot];
                if (place >= size || homes[place] != slot) {
                    if (size >= limit) {
                        return NONE;
                    }
                    slots[slot] = size;
                    homes[size] = slot;
                    tills[size] = till;
                    return size++;
                }
                if (tills[place] == till) {
                    return place;
                }
                slot = slot + 1 & slots.length - 1;
            }
            return NONE;
        }

        /** Behind this the set is read and emptied, but takes no more tills. */
        void sort() {
            for (int gap = size / 2; gap > 0; gap /= 2) {
                for (int i = gap; i < size; i++) {
                    int till = tills[i];
                    int j = i;
                    for (; j >= gap && tills[j - gap] > till; j -= gap) {
                        tills[j] = tills[j - gap];
                    }
                    tills[j] = till;
                }
            }
        }

        int answer(int k) {
            if (k == NONE) {
                return size;
            }
            return k >= 0 && k < size ? tills[k] : NONE;
        }

        int fullest() {
            int found = NONE;
            int most = NONE;
            for (int k = 0; k < size; k++) {
                int coins = Tills.coinsIn(tills[k]);
                if (coins > most) {
                    most = coins;
                    found = k;
                }
            }
            return found;
        }

        int emptiest() {
            int found = NONE;
            int fewest = 0;
            for (int k = 0; k < size; k++) {
                int coins = Tills.coinsIn(tills[k]);
                if (found == NONE || coins < fewest) {
                    fewest = coins;
                    found = k;
                }
            }
            return found;
        }
    }

    /**
     * Payings from one till. While change is given, how many coins were taken out of each pipe and
     * what lies on the tray tell what is left to give: these three are a state, 180 at most.
     */
    private static final class Payings {
        private static final int HEIGHTS = Shop.MOST_LENGTH + 1;
        private static final int SECOND = Shop.MOST_KINDS + 1;
        private static final int FIRST = SECOND * HEIGHTS;
        private static final int STATES = FIRST * HEIGHTS;

        private final Shop shop;
        /** Each pipe behind so many coins taken out, and what those were worth together. */
        private final int[][] rests = new int[Shop.MOST_PIPES][HEIGHTS];
        private final int[][] taken = new int[Shop.MOST_PIPES][HEIGHTS];
        private int onTray;
        private final int[] queue = new int[STATES];
        private int queued;
        private final int[] moves = new int[STATES];
        private final int[] stamps = new int[STATES];
        private int stamp;
        private final int[] ends = new int[STATES];
        private int ended;
        private int whole;
        private int trayLeft;

        Payings(Shop shop) {
            this.shop = shop;
        }

        void startsFrom(int till) {
            onTray = Tills.digitOnTray(Tills.trayOf(till));
            whole = shop.worths[onTray];
            for (int p = 0; p < Shop.MOST_PIPES; p++) {
                int lying = Tills.pipeOf(till, p);
                int worth = 0;
                for (int i = 0; i < HEIGHTS; i++) {
                    rests[p][i] = lying;
                    taken[p][i] = worth;
                    worth += shop.worths[lying % Tills.BASE];
                    lying /= Tills.BASE;
                }
                whole += worth;
            }
        }

        /** The fewest moves by which so much is given (NONE: it can't be), and all states at which it is. */
        int search(int much) {
            queued = 0;
            ended = 0;
            if (much > whole) {
                return NONE;
            }
            stamp++;
            int[] worths = shop.worths;
            int beside = much - worths[onTray];
            reach(onTray, 0);
            for (int head = 0; head < queued; head++) {
                int state = queue[head];
                int lying = state % SECOND;
                int first = state / FIRST;
                int second = state / SECOND % HEIGHTS;
                int left = beside + worths[lying] - taken[0][first] - taken[1][second];
                if (left == 0) {
                    ends[ended] = state;
                    ended++;
                    continue;
                }
                int behind = moves[state] + 1;
                boolean room = lying == 0 && shop.trayRoom > 0;
                if (lying > 0 && worths[lying] <= left) {
                    reach(state - lying, behind);
                }
                int top = rests[0][first] % Tills.BASE;
                if (top > 0 && worths[top] <= left) {
                    reach(state + FIRST, behind);
                }
                if (top > 0 && room) {
                    reach(state + FIRST + top, behind);
                }
                top = rests[1][second] % Tills.BASE;
                if (top > 0 && worths[top] <= left) {
                    reach(state + SECOND, behind);
                }
                if (top > 0 && room) {
                    reach(state + SECOND + top, behind);
                }
            }
            return ended == 0 ? NONE : moves[ends[0]];
        }

        private void reach(int state, int behind) {
            if (stamps[state] != stamp && queued < STATES) {
                stamps[state] = stamp;
                moves[state] = behind;
                queue[queued] = state;
                queued++;
            }
        }

        /** Adds all RESULTS of a customer to a set; false if it has no room for them. */
        boolean collect(int till, Customer customer, TillSet into) {
            startsFrom(till);
            for (int set = 0; set < customer.sets; set++) {
                search(customer.spares[set]);
                for (int i = 0; i < ended; i++) {
                    int state = ends[i];
                    int first = rests[0][state / FIRST];
                    int second = rests[1][state / SECOND % HEIGHTS];
                    trayLeft = Tills.trayWith(state % SECOND);
                    if (!puts(customer, set, 0, first, second, into)) {
                        return false;
                    }
                }
            }
            return true;
        }

        private boolean puts(Customer customer, int set, int coin, int first, int second, TillSet into) {
            if (coin >= customer.handSizes[set]) {
                return into.add(Tills.number(first, second, trayLeft)) != NONE;
            }
            int digit = customer.hands[set * Customer.MOST_COINS + coin];
            if (Tills.height(first) < shop.length
                && !puts(customer, set, coin + 1, first * Tills.BASE + digit, second, into)) {
                return false;
            }
            return shop.pipes < Shop.MOST_PIPES
                || Tills.height(second) >= shop.length
                || puts(customer, set, coin + 1, first, second * Tills.BASE + digit, into);
        }
    }

    /** An order of customers. */
    private static final class Order {
        static final int MOST_ORDERS = 24;
        static final int MOST_TURNS = 6;

        final int[] who = new int[MOST_CUSTOMERS];
        int size;
        private final int[] line = new int[MOST_CUSTOMERS];

        void starts(int customers) {
            size = Math.max(0, Math.min(MOST_CUSTOMERS, customers));
            for (int i = 0; i < size; i++) {
                who[i] = i;
            }
        }

        boolean reads(int row, int customers) {
            starts(customers);
            int rest = row;
            int seen = 0;
            for (int i = size - 1; i >= 0; i--) {
                who[i] = rest % 10;
                rest /= 10;
                if (who[i] < 0 || who[i] >= size) {
                    return false;
                }
                seen |= 1 << who[i];
            }
            return size > 0 && rest == 0 && Integer.bitCount(seen) == size;
        }

        /** To the next order as a number; false if this is the last. */
        boolean advances() {
            int i = size - 2;
            while (i >= 0 && who[i] > who[i + 1]) {
                i--;
            }
            if (i < 0) {
                return false;
            }
            int j = size - 1;
            while (j > i && who[j] < who[i]) {
                j--;
            }
            swap(i, j);
            for (int low = i + 1, high = size - 1; low < high; low++, high--) {
                swap(low, high);
            }
            return true;
        }

        private void swap(int i, int j) {
            int kept = who[i];
            who[i] = who[j];
            who[j] = kept;
        }

        int asNumber() {
            int number = 0;
            for (int i = 0; i < size; i++) {
                number = number * 10 + who[i];
            }
            return number;
        }

        /** How many steps aside it takes to have each at the head of the line in its turn. */
        int turns() {
            for (int i = 0; i < size; i++) {
                line[i] = i;
            }
            int taken = 0;
            int waiting = size;
            for (int i = 0; i < size; i++) {
                for (int turn = 0; turn < waiting && line[0] != who[i]; turn++) {
                    int head = line[0];
                    moveUp(waiting);
                    line[waiting - 1] = head;
                    taken++;
                }
                moveUp(waiting);
                waiting--;
            }
            return taken;
        }

        private void moveUp(int waiting) {
            for (int i = 1; i < waiting; i++) {
                line[i - 1] = line[i];
            }
        }
    }

    /** What can be come to, customer behind customer. */
    private static final class Rows {
        private static final int MOST_TILLS = 200;
        private static final int MOST_FLOAT = 3;

        private final Shop shop;
        private final Payings payings;
        private final Customer[] customers;
        /** Tills behind so many customers. */
        private final TillSet[] levels = new TillSet[MOST_CUSTOMERS + 1];
        /** Of levels 0 and 1, for MOST: how many were served at most on the way to each till. */
        private final int[][] marks = new int[2][MOST_TILLS];
        private int customersTold;
        private int greatest;

        Rows(Shop shop, Payings payings, Customer[] customers) {
            this.shop = shop;
            this.payings = payings;
            this.customers = customers;
            for (int i = 0; i < levels.length; i++) {
                levels[i] = new TillSet(MOST_TILLS);
            }
        }

        TillSet behind(int many) {
            return levels[Math.max(0, Math.min(MOST_CUSTOMERS, many))];
        }

        private void startsFrom(int till) {
            levels[0].size = 0;
            levels[0].add(till);
        }

        /** False: not told. RESULTS over their own limit are over that of the tills behind, too. */
        private boolean goesOn(int level, int customer) {
            TillSet from = behind(level);
            TillSet to = behind(level + 1);
            to.size = 0;
            for (int i = 0; i < from.size; i++) {
                if (!payings.collect(from.tills[i], customers[customer], to)) {
                    return false;
                }
            }
            return true;
        }

        /** 1: it can be served, 0: not, HIDDEN. */
        int goesThrough(int till, Order order) {
            startsFrom(till);
            for (int i = 0; i < order.size; i++) {
                if (!goesOn(i, order.who[i])) {
                    return HIDDEN;
                }
            }
            return behind(order.size).size > 0 ? 1 : 0;
        }

        /** The first order of the first customers that can't be served, NONE, or HIDDEN. */
        int firstUnserved(int till, int many, Order order) {
            order.starts(many);
            for (int i = 0; i < Order.MOST_ORDERS; i++) {
                int able = goesThrough(till, order);
                if (able != 1) {
                    return able == 0 ? order.asNumber() : HIDDEN;
                }
                if (!order.advances()) {
                    return NONE;
                }
            }
            return NONE;
        }

        /** How many steps aside, NONE or HIDDEN; the order is then the one that needs them. */
        int fewestTurns(int till, int many, Order order) {
            for (int turns = 0; turns <= Order.MOST_TURNS; turns++) {
                order.starts(many);
                for (int i = 0; i < Order.MOST_ORDERS; i++) {
                    if (order.turns() == turns) {
                        int able = goesThrough(till, order);
                        if (able != 0) {
                            return able == 1 ? turns : HIDDEN;
                        }
                    }
                    if (!order.advances()) {
                        break;
                    }
                }
            }
            return NONE;
        }

        /** The NUMBER of the till to lay in, NONE or HIDDEN. */
        int leastFloat(int many, Order order) {
            int last = Math.min(MOST_FLOAT, shop.length);
            int tries = 1;
            for (int coins = 0; coins <= last; coins++) {
                for (int t = 0; t < tries; t++) {
                    int till = Tills.number(pipeWith(coins, t), 0, 0);
                    int unserved = firstUnserved(till, many, order);
                    if (unserved < 0) {
                        return unserved == NONE ? till : HIDDEN;
                    }
                }
                tries *= shop.kinds;
            }
            return NONE;
        }

        /** The pipes of so many coins in the order of their numbers. */
        private int pipeWith(int coins, int which) {
            int rest = which;
            int pipe = 0;
            int unit = 1;
            for (int i = 0; i < coins && shop.kinds > 0; i++) {
                pipe += unit * (rest % shop.kinds + 1);
                rest /= shop.kinds;
                unit *= Tills.BASE;
            }
            return pipe;
        }

        /** How many of the line are served at most, or HIDDEN. */
        int mostInLine(int till, int many) {
            startsFrom(till);
            marks[0][0] = 0;
            int now = 0;
            for (int customer = 0; customer < many; customer++) {
                if (!choosesFor(customer, now)) {
                    return HIDDEN;
                }
                now = 1 - now;
            }
            int most = 0;
            for (int i = 0; i < levels[now].size; i++) {
                most = Math.max(most, marks[now][i]);
            }
            return most;
        }

        /** From one of the levels 0 and 1 to the other: the customer is sent home, or served. */
        private boolean choosesFor(int customer, int now) {
            TillSet from = levels[now];
            TillSet results = levels[2];
            levels[1 - now].size = 0;
            for (int i = 0; i < from.size; i++) {
                int mark = marks[now][i];
                results.size = 0;
                if (!raises(1 - now, from.tills[i], mark)
                    || !payings.collect(from.tills[i], customers[customer], results)) {
                    return false;
                }
                for (int k = 0; k < results.size; k++) {
                    if (!raises(1 - now, results.tills[k], mark + 1)) {
                        return false;
                    }
                }
            }
            return true;
        }

        private boolean raises(int level, int till, int mark) {
            int known = levels[level].size;
            int place = levels[level].add(till);
            if (place == NONE) {
                return false;
            }
            if (place >= known || mark > marks[level][place]) {
                marks[level][place] = mark;
            }
            return true;
        }

        /** CHAIN, or HIDDEN. */
        int greatestSet(int till, int many) {
            startsFrom(till);
            customersTold = many;
            greatest = 0;
            return extend(0, 0) ? greatest : HIDDEN;
        }

        /** Goes through all orders of all sets; behind tills that are none there are none, told. */
        private boolean extend(int level, int set) {
            for (int customer = 0; customer < customersTold && level < MOST_CUSTOMERS; customer++) {
                int wider = set | 1 << customer;
                if (wider == set) {
                    continue;
                }
                if (!goesOn(level, customer)) {
                    return false;
                }
                if (behind(level + 1).size > 0) {
                    keepGreater(wider);
                    if (!extend(level + 1, wider)) {
                        return false;
                    }
                }
            }
            return true;
        }

        private void keepGreater(int set) {
            int more = Integer.bitCount(set) - Integer.bitCount(greatest);
            if (more > 0 || more == 0 && set < greatest) {
                greatest = set;
            }
        }
    }

    /** What one customer's paying makes of the others' chances. */
    private static final class Advice {
        private static final int UNABLE = 0;
        private static final int SPOILING = 1;
        private static final int HELPING = 2;

        private final Payings payings;
        private final Customer[] customers;
        private final TillSet near;
        private final TillSet far = new TillSet(MOST_RESULTS);

        Advice(Payings payings, Customer[] customers, TillSet near) {
            this.payings = payings;
            this.customers = customers;
            this.near = near;
        }

        /** How many RESULTS a customer has there, or HIDDEN. */
        private int resultsAt(int till, int customer, TillSet into) {
            into.size = 0;
            return payings.collect(till, customers[customer], into) ? into.size : HIDDEN;
        }

        int helpers(int till, int customer, int many) {
            int able = resultsAt(till, customer, near);
            if (able != 0) {
                return able > 0 ? NONE : HIDDEN;
            }
            return othersThatAre(HELPING, till, customer, many);
        }

        int spoilers(int till, int customer, int many) {
            int able = resultsAt(till, customer, near);
            if (able <= 0) {
                return able == 0 ? NONE : HIDDEN;
            }
            return othersThatAre(SPOILING, till, customer, many);
        }

        private int othersThatAre(int effect, int till, int customer, int many) {
            int bits = 0;
            for (int other = 0; other < many; other++) {
                if (other != customer) {
                    int now = effectOf(other, till, customer);
                    if (now == HIDDEN) {
                        return HIDDEN;
                    }
                    if (now == effect) {
                        bits |= 1 << other;
                    }
                }
            }
            return bits;
        }

        /** All is looked at even when the effect is sure: one RESULT that is not told hides it. */
        private int effectOf(int other, int till, int customer) {
            int many = resultsAt(till, other, near);
            if (many <= 0) {
                return many == 0 ? UNABLE : HIDDEN;
            }
            int effect = SPOILING;
            for (int i = 0; i < many; i++) {
                int able = resultsAt(near.tills[i], customer, far);
                if (able == HIDDEN) {
                    return HIDDEN;
                }
                if (able > 0) {
                    effect = HELPING;
                }
            }
            return effect;
        }

        /** WISE of a customer whose RESULTS are near, in order: k (what 0) or how many. */
        int wisest(int customer, int many, int what) {
            int found = NONE;
            int most = NONE;
            for (int k = 0; k < near.size; k++) {
                int able = othersAble(near.tills[k], customer, many);
                if (able == HIDDEN) {
                    return HIDDEN;
                }
                if (able > most) {
                    most = able;
                    found = k;
                }
            }
            return what == 0 ? found : most;
        }

        private int othersAble(int till, int customer, int many) {
            int able = 0;
            for (int other = 0; other < many; other++) {
                if (other != customer) {
                    int now = resultsAt(till, other, far);
                    if (now == HIDDEN) {
                        return HIDDEN;
                    }
                    able += now > 0 ? 1 : 0;
                }
            }
            return able;
        }
    }

    /** Serves by rules, apart from the shop as it stands. */
    private static final class Baker {
        private static final int MOST_IN_TILL = Shop.MOST_PIPES * Shop.MOST_LENGTH + 1;
        private static final long FACTOR = 6364136223846793005L;
        private static final long STEP = 1442695040888963407L;
        private static final int DRAW_SHIFT = 33;

        private final Shop shop;
        private final Customer[] customers;
        private final int[] pipes = new int[Shop.MOST_PIPES];
        private int onTray;
        private final int[] letters = new int[Rule.LETTER_COUNT];
        private final int[] stack = new int[Rule.ROOM];

        Baker(Shop shop, Customer[] customers) {
            this.shop = shop;
            this.customers = customers;
        }

        int servedOfRow(int till, Rule rule, Order order) {
            int now = till;
            int able = 0;
            for (int i = 0; i < order.size; i++) {
                int behind = tillBehind(now, order.who[i], rule);
                if (behind != NONE) {
                    now = behind;
                    able++;
                }
            }
            return able;
        }

        int servedOfDay(int till, Rule rule, int many, long seed, int customersTold) {
            if (customersTold <= 0) {
                return 0;
            }
            int now = till;
            int able = 0;
            long x = seed;
            for (int i = 0; i < many; i++) {
                x = x * FACTOR + STEP;
                int customer = (int) ((x >>> DRAW_SHIFT) % customersTold);
                int behind = tillBehind(now, customer, rule);
                if (behind != NONE) {
                    now = behind;
                    able++;
                }
            }
            return able;
        }

        /** The till behind a customer, NONE if it is not served. */
        int tillBehind(int till, int customer, Rule rule) {
            Customer who = customers[customer];
            if (who.chosen == NONE) {
                return NONE;
            }
            pipes[0] = Tills.pipeOf(till, 0);
            pipes[1] = Tills.pipeOf(till, 1);
            onTray = Tills.digitOnTray(Tills.trayOf(till));
            if (!handsBack(who.spares[who.chosen])) {
                return NONE;
            }
            int start = who.chosen * Customer.MOST_COINS;
            for (int i = 0; i < who.handSizes[who.chosen]; i++) {
                int digit = who.hands[start + i];
                int pipe = chosenPipe(digit, rule);
                if (pipe == NONE) {
                    return NONE;
                }
                pipes[pipe] = pipes[pipe] * Tills.BASE + digit;
            }
            return Tills.number(pipes[0], pipes[1], Tills.trayWith(onTray));
        }

        private boolean handsBack(int spare) {
            int left = spare;
            for (int i = 0; i < MOST_IN_TILL && left > 0; i++) {
                int first = fitting(pipes[0] % Tills.BASE, left);
                int second = fitting(pipes[1] % Tills.BASE, left);
                int third = fitting(onTray, left);
                int greatest = Math.max(first, Math.max(second, third));
                if (greatest == 0) {
                    return false;
                }
                if (first == greatest) {
                    pipes[0] /= Tills.BASE;
                } else if (second == greatest) {
                    pipes[1] /= Tills.BASE;
                } else {
                    onTray = 0;
                }
                left -= shop.worths[greatest];
            }
            return left == 0;
        }

        private int fitting(int digit, int left) {
            return shop.worths[digit] <= left ? digit : 0;
        }

        private int chosenPipe(int digit, Rule rule) {
            int found = NONE;
            int most = 0;
            for (int pipe = 0; pipe < shop.pipes && pipe < Shop.MOST_PIPES; pipe++) {
                if (Tills.height(pipes[pipe]) < shop.length) {
                    setLetters(digit, pipe);
                    int worth = rule.worth(letters, stack);
                    if (found == NONE || worth > most) {
                        found = pipe;
                        most = worth;
                    }
                }
            }
            return found;
        }

        private void setLetters(int digit, int pipe) {
            letters[0] = shop.worths[digit];
            letters[1] = shop.worths[pipes[pipe] % Tills.BASE];
            letters[2] = Tills.height(pipes[pipe]);
            letters[3] = pipe;
            letters[4] = worthOf(pipes[pipe]);
            letters[5] = Tills.height(pipes[1 - pipe]);
        }

        private int worthOf(int pipe) {
            int together = 0;
            int lying = pipe;
            for (int i = 0; i < Shop.MOST_LENGTH; i++) {
                together += shop.worths[lying % Tills.BASE];
                lying /= Tills.BASE;
            }
            return together;
        }
    }
}
