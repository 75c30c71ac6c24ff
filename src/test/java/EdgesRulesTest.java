import java.math.BigInteger;

/** Boundary cases of promises 22 to 27 and 37: who is served by rules, rows and days of that, means. */
public final class EdgesRulesTest extends Edges {
    public static void main(String[] args) {
        new EdgesRulesTest().runAll(22, 23, 24, 25, 26, 27, 37);
    }

    private TillPipe ruled(TillPipe x, String... texts) {
        rules(x, texts);
        return x;
    }

    /** Into which pipe of a shop of kinds 1, 2, 5 the rule puts the one coin that the customer gives. */
    private int chosen(String rule, String customer, String coins) {
        TillPipe x = laid(ruled(shop("c1,2,5;p2", customer), rule), coins);
        long ahead = x.till() / 16 % 3125;
        due(x.by(0, 0), 1);
        return x.till() / 16 % 3125 == ahead ? 0 : 1;
    }

    /** Pipe 1 is chosen where the condition holds, pipe 0 where not. */
    private void dueHolds(String condition, boolean want) {
        due(chosen("y:" + condition + "?i;y:0-i", "1:a", ""), bit(want));
    }

    /** Who is drawn, by numbers of any size. */
    private static int[] drawn(long seed, int n, int customers) {
        BigInteger all = BigInteger.ONE.shiftLeft(64);
        BigInteger x = BigInteger.valueOf(seed).mod(all);
        int[] out = new int[n];
        for (int i = 0; i < n; i++) {
            x = x.multiply(new BigInteger("6364136223846793005")).add(new BigInteger("1442695040888963407")).mod(all);
            out[i] = x.shiftRight(33).mod(BigInteger.valueOf(customers)).intValue();
        }
        return out;
    }

    private static int times(int who, int[] drawn) {
        int times = 0;
        for (int one : drawn) {
            times += one == who ? 1 : 0;
        }
        return times;
    }

    // ---- 22: by

    void p22_whoIsServed() {
        TillPipe x = ruled(laid(shop("c1,2,5", "4:c"), "a0"), "y:0");
        due(x.by(0, 0), 1);
        due(x.till(), number("c", "", ""));
        due(x.served(0), 1);
    }

    void p22_eachServingCounts() {
        TillPipe x = ruled(shop("c1;p2", "1:a", "1:a"), "y:0");
        due(x.by(0, 1), 1);
        due(x.by(0, 1), 1);
        due(x.served(0), 0);
        due(x.served(1), 2);
    }

    void p22_aPurseThatIsTooLittleLeavesAll() {
        leavesAll(0, () -> ruled(laid(shop("c1,2", "3:b", "1:a"), "a0"), "y:0"), x -> x.by(0, 0));
    }

    void p22_withoutChangeAllIsLeft() {
        leavesAll(0, () -> ruled(shop("c1,2", "1:b", "1:a"), "y:0"), x -> x.by(0, 0));
    }

    void p22_changeThatDoesNotReachTheEndLeavesAll() {
        // 3 back: 2 goes, then nothing is worth 1
        leavesAll(0, () -> ruled(laid(shop("c1,2,5", "2:c", "1:a"), "b0 b0"), "y:0"), x -> x.by(0, 0));
        leavesAll(0, () -> ruled(laid(shop("c1,2,5", "2:c", "1:a"), "b0 b2"), "y:0"), x -> x.by(0, 0));
    }

    void p22_withoutRoomAllIsLeft() {
        leavesAll(0, () -> ruled(laid(shop("c1;l1", "1:a"), "a0"), "y:0"), x -> x.by(0, 0));
        leavesAll(0, () -> ruled(laid(shop("c1;p2;l1", "1:a"), "a0 a1"), "y:0"), x -> x.by(0, 0));
    }

    void p22_withoutRoomForTheLastCoinAllIsLeft() {
        leavesAll(0, () -> ruled(shop("c1;l1", "2:aa", "1:a"), "y:0"), x -> x.by(0, 0));
        leavesAll(0, () -> ruled(laid(shop("c1;p2;l2", "3:aaa", "1:a"), "a0 a1"), "y:0"), x -> x.by(0, 0));
        leavesAll(0, () -> ruled(laid(shop("c1,2,5;l2", "6:cbb", "1:a"), "a0 a0"), "y:0"), x -> x.by(0, 0));
    }

    void p22_roomThatChangeMakesIsTaken() {
        TillPipe x = ruled(laid(shop("c1,2,5;l1", "4:c"), "a0"), "y:0");
        due(x.by(0, 0), 1);
        due(x.till(), number("c", "", ""));
    }

    void p22_noSuchRuleIsRefused() {
        for (int rule : new int[] {-1, 2, 3, 4, Integer.MIN_VALUE, Integer.MAX_VALUE}) {
            leavesAll(NONE, this::busy, x -> x.by(rule, 1));
        }
        leavesAll(NONE, () -> shop("c1", "1:a"), x -> x.by(0, 0));
        leavesAll(NONE, this::full, x -> x.by(4, 0));
    }

    void p22_noSuchCustomerIsRefused() {
        for (int customer : new int[] {-1, 3, 4, Integer.MIN_VALUE, Integer.MAX_VALUE}) {
            leavesAll(NONE, this::busy, x -> x.by(0, customer));
        }
        leavesAll(NONE, this::bare, x -> x.by(0, 0));
        leavesAll(NONE, this::full, x -> x.by(0, 4));
    }

    void p22_withoutChangeNothingIsTaken() {
        TillPipe x = ruled(laid(shop("c1,2", "2:b"), "a0 a0 a2"), "y:0");
        due(x.by(0, 0), 1);
        due(x.till(), number("aab", "", "a"));
    }

    void p22_aTopWorthWhatIsLeftIsGiven() {
        TillPipe x = ruled(laid(shop("c1,2,5", "3:c"), "b0"), "y:0");
        due(x.by(0, 0), 1);
        due(x.till(), number("c", "", ""));
    }

    void p22_aTopWorthMoreIsNotAndNotPutAsideEither() {
        TillPipe x = ruled(laid(shop("c1,2,5", "4:c"), "a0 b0"), "y:0");
        due(x.by(0, 0), 0);
        due(x.result(0, NONE), 1);
    }

    void p22_theGreatestOfAllTopsAndTheTray() {
        // 8 back: 5 from pipe 1, 2 from the tray, 1 from pipe 0
        TillPipe x = ruled(laid(shop("c1,2,5,9;p2", "1:d"), "a0 c1 b2"), "y:0");
        due(x.by(0, 0), 1);
        due(x.till(), number("d", "", ""));
        // 2 back: b, though a lies ahead of it in pipe 0
        TillPipe y = ruled(laid(shop("c1,2,5;p2", "3:c"), "a0 a0 b1"), "y:0");
        due(y.by(0, 0), 1);
        due(y.till(), number("aac", "", ""));
    }

    void p22_theGreatestNeedNotLeadToTheEnd() {
        // 6 back: 4 and then nothing worth 2, though 3 and 3 lie there
        TillPipe x = ruled(laid(shop("c1,3,4,9;p2", "3:d"), "b0 b0 c1"), "y:0");
        due(x.by(0, 0), 0);
        due(x.result(0, NONE) > 0, true);
    }

    void p22_ofAlikePipe0IsAheadOfPipe1() {
        TillPipe x = ruled(laid(shop("c1,2,5;p2", "3:c"), "b0 b1"), "y:i");
        due(x.by(0, 0), 1);
        due(x.till(), number("", "bc", ""));
    }

    void p22_ofAlikePipesAreAheadOfTheTray() {
        TillPipe x = ruled(laid(shop("c1,2,5;p2", "3:c"), "b0 b2"), "y:i");
        due(x.by(0, 0), 1);
        due(x.till(), number("", "c", "b"));
        TillPipe y = ruled(laid(shop("c1,2,5;p2", "3:c"), "b1 b2"), "y:0-i");
        due(y.by(0, 0), 1);
        due(y.till(), number("c", "", "b"));
    }

    void p22_theTrayGivesWhereNoTopFits() {
        TillPipe x = ruled(laid(shop("c1,2,5;p2", "3:c"), "c0 c1 b2"), "y:i");
        due(x.by(0, 0), 1);
        due(x.till(), number("c", "cc", ""));
    }

    void p22_changeOfAllElevenCoins() {
        TillPipe x = ruled(laid(shop("c1,12;p2", "1:b"), "a0 a0 a0 a0 a0 a1 a1 a1 a1 a1 a2"), "y:i");
        due(x.by(0, 0), 1);
        due(x.till(), number("", "b", ""));
    }

    void p22_whenNoneOfThreeFitsItIsNotServed() {
        TillPipe x = ruled(laid(shop("c1,2,5;p2", "4:c"), "a0 b0 b1 b2"), "y:0");
        due(x.by(0, 0), 0);
        due(x.till(), number("ab", "b", "b"));
    }

    void p22_itGivesTheLeastThatIsEnough() {
        TillPipe x = ruled(shop("c1,2,5", "1:cab", "2:acb"), "y:0");
        due(x.by(0, 0), 1);
        due(x.till(), number("a", "", ""));
        due(x.by(0, 1), 1);
        due(x.till(), number("ab", "", ""));
    }

    void p22_theGreatestGoesInFirst() {
        TillPipe x = ruled(shop("c1,2,5", "8:abc"), "y:0");
        due(x.by(0, 0), 1);
        due(x.till(), number("cba", "", ""));
    }

    void p22_thePipeOfTheGreatestWorth() {
        due(chosen("y:i", "1:a", ""), 1);
        due(chosen("y:0-i", "1:a", ""), 0);
        due(chosen("y:0-1-i", "1:a", ""), 0);
        due(chosen("y:i-5", "1:a", ""), 1);
    }

    void p22_ofSeveralPipesTheLowest() {
        due(chosen("y:7", "1:a", ""), 0);
        due(chosen("y:0-7", "1:a", ""), 0);
        due(chosen("y:n", "1:a", "b0 c1"), 0);
    }

    void p22_onlyPipesWithRoom() {
        due(chosen("y:0-i", "1:a", "a0 a0 a0 a0 a0"), 1);
        due(chosen("y:i", "1:a", "a1 a1 a1 a1 a1"), 0);
        due(chosen("y:i", "1:a", "a1 a1 a1 a1"), 1);
    }

    void p22_eachCoinIsPutByItsOwnWorth() {
        TillPipe x = ruled(shop("c1,2,5;p2", "8:abc"), "y:0-n");
        due(x.by(0, 0), 1);
        due(x.till(), number("ca", "b", ""));
        TillPipe y = ruled(shop("c1,2,5;p2", "8:abc"), "y:v=2?i;y:0-i");
        due(y.by(0, 0), 1);
        due(y.till(), number("ca", "b", ""));
    }

    void p22_vIsTheValueOfTheCoin() {
        due(chosen("y:v=5?i;y:0-i", "5:c", ""), 1);
        due(chosen("y:v=5?i;y:0-i", "2:b", ""), 0);
    }

    void p22_tIsTheValueOfTheTop() {
        due(chosen("y:t", "1:a", "c0 a0 a1 b1"), 1);
        due(chosen("y:t", "1:a", "a0 b0 c1 a1"), 0);
        due(chosen("y:t=5&i=1?1", "1:a", "c1"), 1);
    }

    void p22_tIs0WithoutATop() {
        due(chosen("y:t=0&i=1?1", "1:a", "a0"), 1);
        due(chosen("y:0-t", "1:a", "a0"), 1);
    }

    void p22_nIsHowManyLieThere() {
        due(chosen("y:n=0&i=1?1", "1:a", "a0"), 1);
        due(chosen("y:n=4&i=1?1", "1:a", "a1 a1 a1 a1"), 1);
        due(chosen("y:n", "1:a", "c0 a1 a1"), 1);
    }

    void p22_iIsThePipesNumber() {
        due(chosen("y:i=1?1", "1:a", ""), 1);
        due(chosen("y:i=0?0-1", "1:a", ""), 1);
    }

    void p22_sIsHowMuchLiesThere() {
        due(chosen("y:s=0&i=1?1", "1:a", "a0"), 1);
        due(chosen("y:s=8&i=1?1", "1:a", "a1 b1 c1"), 1);
        due(chosen("y:s", "1:a", "c0 a1 a1 a1 a1"), 0);
    }

    void p22_oIsHowManyLieInTheOther() {
        due(chosen("y:o=0&i=1?1", "1:a", "a1"), 1);
        due(chosen("y:o=5&i=1?1", "1:a", "a0 a0 a0 a0 a0"), 1);
        due(chosen("y:o=2&i=0?0-1", "1:a", "a1 a1"), 1);
    }

    void p22_aMissingPipeIsNotChosenAndHoldsNone() {
        TillPipe x = ruled(shop("c1", "1:a"), "y:i", "y:o+i");
        due(x.by(0, 0), 1);
        due(x.by(1, 0), 1);
        due(x.till(), number("aa", "", ""));
    }

    void p22_theFirstClauseThatHolds() {
        due(chosen("y:1=1?i;y:0-i", "1:a", ""), 1);
        due(chosen("y:1=2?i;y:0-i", "1:a", ""), 0);
        due(chosen("y:1=2?0-i;y:1=1?i;y:0-i", "1:a", ""), 1);
        due(chosen("y:i;y:0-i-i", "1:a", ""), 1);
    }

    void p22_withoutOneThatHoldsTheWorthIs0() {
        due(chosen("y:i=0?0-1", "1:a", ""), 1);
        due(chosen("y:i=0?1", "1:a", ""), 0);
        due(chosen("y:i=1?0-1", "1:a", ""), 0);
        due(chosen("y:1=2?9999;y:2=3?9999", "1:a", ""), 0);
    }

    void p22_aMillionIsTheMost() {
        dueHolds("1000*1000>999*1001", true);
        dueHolds("1000*1000-1=999*1001", true);
        dueHolds("1000*1000+1=1000*1000", true);
        dueHolds("1000*1000+9999=1000*1000", true);
        dueHolds("1001*1000=1000*1000", true);
        dueHolds("9999*9999=1000*1000", true);
        dueHolds("9999*9999*9999*9999=1000*1000", true);
        dueHolds("1000*999+1000=1000*1000", true);
        dueHolds("1000*999+1001=1000*1000", true);
    }

    void p22_minusAMillionIsTheLeast() {
        dueHolds("0-1000*1000<0-999*1001", true);
        dueHolds("0-1000*1000-1=0-1000*1000", true);
        dueHolds("0-9999*9999=0-1000*1000", true);
        dueHolds("[0-9999]*9999=0-1000*1000", true);
        dueHolds("[0-1000*1000]+[0-1]=0-1000*1000", true);
        dueHolds("0-1000*1000+1=0-999*1001", true);
    }

    void p22_theBoundsHoldBehindEachSign() {
        dueHolds("1000*1000*2/2=500*1000", true);
        dueHolds("1000*1000+1-1=999*1001", true);
        dueHolds("0-1000*1000-1+1=0-999*1001", true);
        dueHolds("9999*9999-9999*9999=0", true);
        dueHolds("[0-9999*9999]*[0-9999]=1000*1000", true);
    }

    void p22_divisionCutsTowards0() {
        dueHolds("7/2=3", true);
        dueHolds("[0-7]/2=0-3", true);
        dueHolds("7/[0-2]=0-3", true);
        dueHolds("[0-7]/[0-2]=3", true);
        dueHolds("1/2=0", true);
        dueHolds("[0-1]/2=0", true);
        dueHolds("6/2=3", true);
    }

    void p22_divisionBy0Gives0() {
        dueHolds("5/0=0", true);
        dueHolds("0/0=0", true);
        dueHolds("[0-5]/0=0", true);
        dueHolds("9999/[1-1]+1=1", true);
        due(chosen("y:1/n+i", "1:a", ""), 1);
    }

    void p22_signsFromLeftToRight() {
        dueHolds("9-3-2=4", true);
        dueHolds("9-3+2=8", true);
        dueHolds("12/3*2=8", true);
        dueHolds("12/3/2=2", true);
    }

    void p22_timesAheadOfPlus() {
        dueHolds("1+2*3=7", true);
        dueHolds("[1+2]*3=9", true);
        dueHolds("9-4/2=7", true);
    }

    void p22_andAheadOfOr() {
        dueHolds("1=1|1=1&1=2", true);
        dueHolds("1=2&1=1|1=1", true);
        dueHolds("(1=1|1=1)&1=2", false);
        dueHolds("1=2|1=2", false);
        dueHolds("1=2|1=1", true);
        dueHolds("1=1&1=2", false);
        dueHolds("1=2&1=2", false);
        dueHolds("1=1&1=1&1=2", false);
    }

    void p22_eachComparisonIsATruth() {
        String[] so = {"1=1", "1<2", "2>1", "!1=2", "!2<1", "!1>2", "(1<2)"};
        String[] not = {"1=2", "2<1", "1>2", "!1=1", "!1<2", "!2>1", "(1>2)"};
        for (int i = 0; i < so.length; i++) {
            for (int j = 0; j < so.length; j++) {
                dueHolds(so[i] + "&" + so[j], true);
                dueHolds(so[i] + "&" + not[j], false);
                dueHolds(not[i] + "&" + so[j], false);
                dueHolds(not[i] + "&" + not[j], false);
                dueHolds(so[i] + "|" + so[j], true);
                dueHolds(so[i] + "|" + not[j], true);
                dueHolds(not[i] + "|" + so[j], true);
                dueHolds(not[i] + "|" + not[j], false);
            }
        }
    }

    void p22_notIsOfOneUnit() {
        dueHolds("!1=1", false);
        dueHolds("!1=2", true);
        dueHolds("!1=2&1=2", false);
        dueHolds("!1=1|1=1", true);
        dueHolds("!(1=2&1=2)", true);
        dueHolds("!(1=1|1=2)", false);
        dueHolds("!!1=1", true);
        dueHolds("!!!!!!1=2", false);
    }

    void p22_equalIsNeitherLessNorMore() {
        dueHolds("2=2", true);
        dueHolds("2<2", false);
        dueHolds("2>2", false);
        dueHolds("1<2", true);
        dueHolds("2>1", true);
        dueHolds("2<1", false);
        dueHolds("1>2", false);
        dueHolds("1=2", false);
        dueHolds("0-1<0", true);
        dueHolds("0>0-1", true);
    }

    void p22_sixWithinOneAnotherAreReckoned() {
        due(chosen("y:[[[[[[i]]]]]]", "1:a", ""), 1);
        dueHolds("((((((1=1))))))", true);
        dueHolds("!(!(!(1=2)))", true);
    }

    void p22_numbersOfFourDigits() {
        dueHolds("9999=10*1000-1", true);
        dueHolds("0009=9", true);
        dueHolds("0000=0", true);
    }

    void p22_theFourthRule() {
        TillPipe x = ruled(shop("c1;p2", "1:a"), "y:0", "y:0", "y:0", "y:i");
        due(x.by(3, 0), 1);
        due(x.till(), number("", "a", ""));
    }

    // ---- 23: gives

    private void dueGives(String shop, String customer, int... due) {
        TillPipe x = shop(shop, customer);
        for (int kind = 0; kind < due.length; kind++) {
            due(x.gives(0, kind), due[kind]);
        }
    }

    void p23_exactlyThePrice() {
        dueGives("c1,2", "2:b", 0, 1);
        dueGives("c1,2", "6:bbba", 0, 3);
        dueGives("c99", "99:a", 1);
        dueGives("c1,2", "7:bbba", 1, 3);
    }

    void p23_aPurseThatIsTooLittle() {
        dueGives("c1,2", "3:b", NONE, NONE);
        dueGives("c1,2", "8:bbba", NONE, NONE);
        dueGives("c98", "99:a", NONE);
    }

    void p23_theLeastWorthAheadOfFewestCoins() {
        dueGives("c1,2,3,6", "5:dbc", 0, 1, 1, 0);
        dueGives("c1,5", "4:baaa", 0, 1);
        dueGives("c1,5", "3:baaa", 3, 0);
        dueGives("c1,2,5", "6:cbbb", 0, 3, 0);
    }

    void p23_ofAlikeWorthTheFewestCoins() {
        dueGives("c1,2,3", "3:abc", 0, 0, 1);
        dueGives("c1,2,3,6", "6:dbcc", 0, 0, 0, 1);
        dueGives("c1,2,3", "3:baac", 0, 0, 1);
    }

    void p23_ofAsManyThatWithMoreOfTheGreatest() {
        dueGives("c1,4,6,9", "10:abcd", 1, 0, 0, 1);
        dueGives("c1,4,6,9", "10:cbda", 1, 0, 0, 1);
        dueGives("c1,2,3", "4:bbac", 1, 0, 1);
        dueGives("c2,5,6,9", "11:abcd", 1, 0, 0, 1);
    }

    void p23_ofAllPursesOfFour() {
        int[][] shops = {{1, 2, 3, 4}, {1, 2, 5, 10}, {2, 5, 6, 9}, {1, 4, 6, 9}};
        for (int[] values : shops) {
            for (int price = 1; price < 40; price += 3) {
                TillPipe x = null;
                for (int purse = 0; purse < 256; purse++) {
                    if (purse % 4 == 0) {
                        x = shop("c" + values[0] + "," + values[1] + "," + values[2] + "," + values[3]);
                    }
                    int[] kinds = {purse & 3, purse >> 2 & 3, purse >> 4 & 3, purse >> 6};
                    StringBuilder text = new StringBuilder().append(price).append(':');
                    for (int kind : kinds) {
                        text.append((char) ('a' + kind));
                    }
                    due(tell(x, text.toString(), CUSTOMER), purse % 4);
                    int[] due = given(values, price, kinds);
                    for (int kind = 0; kind < 4; kind++) {
                        due(x.gives(purse % 4, kind), due[kind]);
                    }
                }
            }
        }
    }

    /** How many of each kind, by the document's words: the least of (worth, coins, fewer of d, of c, of b, of a). */
    private static int[] given(int[] values, int price, int[] kinds) {
        int[] best = {NONE, NONE, NONE, NONE};
        long least = Long.MAX_VALUE;
        for (int mask = 1; mask < 16; mask++) {
            int[] counts = new int[4];
            long worth = 0;
            for (int i = 0; i < 4; i++) {
                if ((mask >> i & 1) == 1) {
                    counts[kinds[i]]++;
                    worth += values[kinds[i]];
                }
            }
            long rank = worth * 10 + Integer.bitCount(mask);
            for (int kind = 3; kind >= 0; kind--) {
                rank = rank * 10 + 4 - counts[kind];
            }
            if (worth >= price && rank < least) {
                least = rank;
                best = counts;
            }
        }
        return best;
    }

    void p23_noneOfAKindIs0() {
        dueGives("c1,2,5,9", "1:a", 1, 0, 0, 0);
    }

    void p23_noSuchCustomerIsRefused() {
        for (int customer : new int[] {-1, 3, 4, Integer.MIN_VALUE, Integer.MAX_VALUE}) {
            leavesAll(NONE, this::busy, x -> x.gives(customer, 0));
        }
        due(bare().gives(0, 0), NONE);
        due(full().gives(4, 0), NONE);
    }

    void p23_noSuchKindIsRefused() {
        for (int kind : new int[] {-1, -2, 3, 4, Integer.MIN_VALUE, Integer.MAX_VALUE}) {
            leavesAll(NONE, this::busy, x -> x.gives(0, kind));
        }
        due(shop("c1", "1:a").gives(0, 1), NONE);
    }

    void p23_theTillDoesNotMatter() {
        TillPipe x = shop("c1,2;l1", "1:ab");
        due(x.gives(0, 0), 1);
        laid(x, "a0");
        due(x.gives(0, 0), 1);
        due(x.gives(0, 1), 0);
    }

    // ---- 24: run

    private TillPipe three() {
        return ruled(shop("c1,2,5", "3:c", "2:b", "1:aa"), "y:0");
    }

    void p24_howManyAreServed() {
        int[][] due = {{12, 2}, {21, 2}, {102, 3}, {120, 2}, {201, 2}, {210, 3}};
        for (int[] one : due) {
            due(three().run(0, one[0]), one[1]);
        }
    }

    void p24_fromNoneToAll() {
        due(ruled(shop("c1", "2:a", "3:a"), "y:0").run(0, 1), 0);
        due(ruled(shop("c1;p2", "1:a", "1:a", "1:a", "1:a"), "y:0").run(0, 3210), 4);
    }

    void p24_whoIsNotServedGoesHome() {
        // the first and the third aren't, the others are
        TillPipe x = ruled(shop("c1,2", "9:a", "1:a", "9:b", "2:b"), "y:0");
        due(x.run(0, 123), 2);
    }

    void p24_apartFromTheShop() {
        leavesAll(3, this::three, x -> x.run(0, 102));
        leavesAll(busy().run(1, 12), this::busy, x -> x.run(1, 12));
    }

    void p24_fromTheShopAsItIs() {
        TillPipe x = three();
        due(x.run(0, 12), 2);
        laid(x, "b0");
        due(x.run(0, 12), 3);
    }

    void p24_noSuchRuleIsRefused() {
        for (int rule : new int[] {-1, 2, 4, Integer.MIN_VALUE, Integer.MAX_VALUE}) {
            leavesAll(NONE, this::busy, x -> x.run(rule, 12));
        }
        due(shop("c1", "1:a").run(0, 0), NONE);
        due(full().run(4, 123), NONE);
    }

    void p24_noSuchRowIsRefused() {
        for (int row : new int[] {-1, 0, 11, 13, 122, 1012, Integer.MIN_VALUE, Integer.MAX_VALUE}) {
            leavesAll(NONE, this::busy, x -> x.run(0, row));
        }
        due(bare().run(0, 0), NONE);
        due(ruled(shop("c1"), "y:0").run(0, 0), NONE);
    }

    // ---- 25: worst

    void p25_theFewestOfAllOrders() {
        TillPipe x = three();
        due(x.worst(0, 0), 2);
        due(x.worst(0, 1), 12);
    }

    void p25_ofSeveralOrdersTheFirst() {
        // all alike
        TillPipe x = ruled(shop("c1;p2", "1:a", "1:a", "1:a", "1:a"), "y:0");
        due(x.worst(0, 0), 4);
        due(x.worst(0, 1), 123);
        // 3 behind 012, 021 and 102, 2 behind 120 and others
        TillPipe y = laid(three(), "b0");
        due(y.worst(0, 0), 2);
        due(y.worst(0, 1), 120);
        due(y.run(0, 102), 3);
    }

    void p25_theLastOrderMayBeIt() {
        // c's change is b alone: what comes ahead of it covers it
        TillPipe x = laid(ruled(shop("c1,2,5;t0", "3:c", "1:a"), "y:0"), "b0");
        due(x.worst(0, 0), 1);
        due(x.worst(0, 1), 10);
    }

    void p25_theLastOf24OrdersMayBeIt() {
        TillPipe x = laid(ruled(shop("c1,2;p2", "1:a", "3:bb", "4:bb", "3:ab"), "y:0"), "b0 a1 b0");
        due(x.worst(0, 0), 3);
        due(x.worst(0, 1), 3210);
        due(x.run(0, 3201), 4);
    }

    void p25_none() {
        TillPipe x = ruled(shop("c1", "2:a", "3:a"), "y:0");
        due(x.worst(0, 0), 0);
        due(x.worst(0, 1), 1);
    }

    void p25_oneCustomer() {
        TillPipe x = ruled(shop("c1", "1:a"), "y:0");
        due(x.worst(0, 0), 1);
        due(x.worst(0, 1), 0);
    }

    void p25_withoutCustomersThereIsNone() {
        leavesAll(NONE, this::bare, x -> x.worst(0, 0));
        due(ruled(shop("c1"), "y:0").worst(0, 1), NONE);
    }

    void p25_noSuchRuleIsRefused() {
        for (int rule : new int[] {-1, 2, 4, Integer.MIN_VALUE, Integer.MAX_VALUE}) {
            leavesAll(NONE, this::busy, x -> x.worst(rule, 0));
        }
        due(shop("c1", "1:a").worst(0, 0), NONE);
        due(full().worst(4, 0), NONE);
    }

    void p25_noSuchWhatIsRefused() {
        for (int what : new int[] {-1, -2, 2, Integer.MIN_VALUE, Integer.MAX_VALUE}) {
            leavesAll(NONE, this::busy, x -> x.worst(0, what));
        }
    }

    void p25_apartFromTheShop() {
        leavesAll(2, this::three, x -> x.worst(0, 0));
        leavesAll(12, this::three, x -> x.worst(0, 1));
    }

    // ---- 26: day

    /** Of its customers one can be served, ten times: a day tells how often that one is drawn. */
    private TillPipe counting(int who, int customers) {
        String[] told = new String[customers];
        for (int i = 0; i < customers; i++) {
            told[i] = i == who ? "1:a" : "9:a";
        }
        return ruled(shop("c1;p2", told), "y:0");
    }

    void p26_theFirstDraws() {
        // seed 0 draws 1 0 1 0 1 1 0 1 0 1 of two
        int[] due = {0, 1, 1, 2, 2, 2, 3, 3, 4, 4};
        for (int n = 1; n <= 10; n++) {
            due(counting(0, 2).day(0, n, 0), due[n - 1]);
        }
    }

    void p26_xGoesRound() {
        for (long seed : new long[] {1, 2, -1, -2, 1L << 32, 1L << 33, Long.MAX_VALUE, Long.MIN_VALUE, Long.MIN_VALUE + 1,
            0x5555555555555555L, 6364136223846793005L, -1442695040888963407L}) {
            for (int customers = 2; customers <= 4; customers++) {
                TillPipe x = counting(1, customers);
                for (int n = 1; n <= 12; n++) {
                    due(x.day(0, n, seed), Math.min(10, times(1, drawn(seed, n, customers))));
                }
            }
        }
    }

    void p26_theShiftIsWithoutSign() {
        // the first x of these seeds is below 0 as a number with sign
        for (long seed = 0; seed < 40; seed++) {
            long x = seed * 6364136223846793005L + 1442695040888963407L;
            if (x < 0) {
                for (int who = 0; who < 3; who++) {
                    due(counting(who, 3).day(0, 1, seed), (x >>> 33) % 3 == who ? 1 : 0);
                }
            }
        }
    }

    void p26_ofOneCustomerItIsAlwaysThatOne() {
        TillPipe x = counting(0, 1);
        due(x.day(0, 1, 5), 1);
        due(x.day(0, 9, -5), 9);
    }

    void p26_from1To60Customers() {
        TillPipe x = counting(0, 1);
        due(x.day(0, 1, 0), 1);
        due(x.day(0, 60, 0), 10);
    }

    void p26_the60thCustomerCounts() {
        int found = 0;
        for (long seed = 0; seed < 100; seed++) {
            int without = times(0, drawn(seed, 59, 4));
            int with = times(0, drawn(seed, 60, 4));
            if (without < with && with <= 10) {
                TillPipe x = counting(0, 4);
                due(x.day(0, 59, seed), without);
                due(x.day(0, 60, seed), with);
                found++;
            }
        }
        due(found > 0, true);
    }

    void p26_otherNumbersOfCustomersAreRefused() {
        for (int n : new int[] {0, -1, 61, 62, Integer.MIN_VALUE, Integer.MAX_VALUE}) {
            leavesAll(NONE, this::busy, x -> x.day(0, n, 1));
        }
    }

    void p26_noSuchRuleIsRefused() {
        for (int rule : new int[] {-1, 2, 4, Integer.MIN_VALUE, Integer.MAX_VALUE}) {
            leavesAll(NONE, this::busy, x -> x.day(rule, 1, 1));
        }
        due(shop("c1", "1:a").day(0, 1, 1), NONE);
        due(full().day(4, 1, 1), NONE);
    }

    void p26_withoutCustomersThereIsNone() {
        leavesAll(NONE, this::bare, x -> x.day(0, 1, 1));
        due(ruled(shop("c1"), "y:0").day(0, 1, 1), NONE);
    }

    void p26_apartFromTheShop() {
        leavesAll(busy().day(0, 20, 3), this::busy, x -> x.day(0, 20, 3));
    }

    void p26_fromTheShopAsItIs() {
        TillPipe x = counting(0, 1);
        due(x.day(0, 60, 0), 10);
        laid(x, "a0 a1 a1");
        due(x.day(0, 60, 0), 7);
    }

    // ---- 27: best

    /** Behind rule 0 row 021 has b cover a; rules 1 and 2 keep them apart. */
    private TillPipe threeRules() {
        return ruled(shop("c1,2,5;p2;t0", "1:a", "4:c", "2:b"), "y:0-i", "y:v=1?i;y:0-i", "y:v=1?i;y:0-i");
    }

    void p27_withTheMostServed() {
        TillPipe x = threeRules();
        due(x.run(0, 21), 2);
        due(x.run(1, 21), 3);
        due(x.best(21, 0, 0), 1);
    }

    void p27_ofSeveralTheLowest() {
        due(threeRules().best(12, 0, 0), 0);
        due(threeRules().best(NONE, 1, 0), 0);
        TillPipe x = ruled(shop("c1", "2:a"), "y:0", "y:1");
        due(x.best(0, 0, 0), 0);
    }

    void p27_theLastOfFourRules() {
        TillPipe x = ruled(shop("c1,2,5;p2;t0", "1:a", "4:c", "2:b"), "y:0-i", "y:0-i", "y:0-i", "y:v=1?i;y:0-i");
        due(x.best(21, 0, 0), 3);
    }

    void p27_byARowTheSeedDoesNotMatter() {
        due(threeRules().best(21, 0, Long.MIN_VALUE), 1);
        due(threeRules().best(21, 0, -1), 1);
    }

    void p27_byADayOf1To60() {
        TillPipe x = threeRules();
        for (int n : new int[] {1, 2, 30, 60}) {
            for (long seed = -2; seed < 6; seed++) {
                int best = 0;
                for (int rule = 1; rule < 3; rule++) {
                    best = x.day(rule, n, seed) > x.day(best, n, seed) ? rule : best;
                }
                due(x.best(NONE, n, seed), best);
            }
        }
    }

    void p27_oneCustomerIsEnough() {
        TillPipe x = ruled(shop("c1;p2;l1", "1:a"), "y:0", "y:1");
        due(x.best(NONE, 1, 0), 0);
        due(x.best(NONE, 60, 0), 0);
        due(x.best(0, 0, 0), 0);
    }

    void p27_otherNumbersOfCustomersAreRefused() {
        for (int n : new int[] {0, -1, 61, 62, Integer.MIN_VALUE, Integer.MAX_VALUE}) {
            leavesAll(NONE, this::busy, x -> x.best(NONE, n, 1));
        }
        for (int n : new int[] {-1, 1, 60, 61, Integer.MIN_VALUE, Integer.MAX_VALUE}) {
            leavesAll(NONE, this::busy, x -> x.best(12, n, 1));
        }
    }

    void p27_noSuchRowIsRefused() {
        for (int row : new int[] {-2, 0, 11, 13, 122, 1012, Integer.MIN_VALUE, Integer.MAX_VALUE}) {
            leavesAll(NONE, this::busy, x -> x.best(row, 0, 1));
            leavesAll(NONE, this::busy, x -> x.best(row, 1, 1));
        }
    }

    void p27_withoutRulesThereIsNone() {
        leavesAll(NONE, () -> shop("c1", "1:a"), x -> x.best(0, 0, 0));
        leavesAll(NONE, () -> shop("c1", "1:a"), x -> x.best(NONE, 1, 0));
    }

    void p27_withoutCustomersThereIsNone() {
        leavesAll(NONE, this::bare, x -> x.best(0, 0, 0));
        leavesAll(NONE, this::bare, x -> x.best(NONE, 1, 0));
        due(ruled(shop("c1"), "y:0").best(NONE, 1, 0), NONE);
    }

    void p27_apartFromTheShop() {
        leavesAll(busy().best(12, 0, 0), this::busy, x -> x.best(12, 0, 0));
        leavesAll(busy().best(NONE, 60, 7), this::busy, x -> x.best(NONE, 60, 7));
    }

    // ---- 37: mean

    void p37_overSeedsFrom0() {
        TillPipe x = counting(0, 2);
        int together = 0;
        int fewest = 60;
        int most = 0;
        for (int k = 1; k <= 20; k++) {
            int one = Math.min(10, times(0, drawn(k - 1, 9, 2)));
            together += one;
            fewest = Math.min(fewest, one);
            most = Math.max(most, one);
            due(x.mean(0, 9, k, 0), together);
            due(x.mean(0, 9, k, 1), most - fewest);
        }
    }

    void p37_seed0Alone() {
        TillPipe x = counting(0, 2);
        due(x.mean(0, 10, 1, 0), x.day(0, 10, 0));
        due(x.mean(0, 10, 1, 1), 0);
    }

    void p37_from1To20Seeds() {
        due(counting(0, 1).mean(0, 1, 20, 0), 20);
        due(counting(0, 1).mean(0, 1, 1, 0), 1);
        for (int k : new int[] {0, -1, 21, 22, Integer.MIN_VALUE, Integer.MAX_VALUE}) {
            leavesAll(NONE, this::busy, x -> x.mean(0, 1, k, 0));
        }
    }

    void p37_from1To60Customers() {
        due(counting(0, 1).mean(0, 60, 2, 0), 20);
        due(counting(0, 1).mean(0, 1, 2, 0), 2);
        for (int n : new int[] {0, -1, 61, 62, Integer.MIN_VALUE, Integer.MAX_VALUE}) {
            leavesAll(NONE, this::busy, x -> x.mean(0, n, 1, 0));
        }
    }

    void p37_steadyIs0WhereAllAreAlike() {
        due(counting(0, 1).mean(0, 7, 20, 1), 0);
        TillPipe none = ruled(shop("c1", "2:a"), "y:0");
        due(none.mean(0, 7, 20, 0), 0);
        due(none.mean(0, 7, 20, 1), 0);
    }

    void p37_noSuchWhatIsRefused() {
        for (int what : new int[] {-1, -2, 2, Integer.MIN_VALUE, Integer.MAX_VALUE}) {
            leavesAll(NONE, this::busy, x -> x.mean(0, 1, 1, what));
        }
    }

    void p37_noSuchRuleIsRefused() {
        for (int rule : new int[] {-1, 2, 4, Integer.MIN_VALUE, Integer.MAX_VALUE}) {
            leavesAll(NONE, this::busy, x -> x.mean(rule, 1, 1, 0));
        }
        due(shop("c1", "1:a").mean(0, 1, 1, 0), NONE);
        due(full().mean(4, 1, 1, 0), NONE);
    }

    void p37_withoutCustomersThereIsNone() {
        leavesAll(NONE, this::bare, x -> x.mean(0, 1, 1, 0));
        due(ruled(shop("c1"), "y:0").mean(0, 1, 1, 1), NONE);
    }

    void p37_apartFromTheShop() {
        leavesAll(busy().mean(0, 20, 5, 0), this::busy, x -> x.mean(0, 20, 5, 0));
    }
}
