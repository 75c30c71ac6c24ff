/** Boundary cases of promises 15 to 21: rows, the line, what to lay in at dawn; all of them where tills are told no more. */
public final class EdgesRowsTest extends Edges {
    public static void main(String[] args) {
        new EdgesRowsTest().runAll(15, 16, 17, 18, 19, 20, 21);
    }

    // ---- shops, with how many tills are behind each customer of which order

    private TillPipe three() {
        return shop("c1,2,5", "3:c", "2:b", "1:aa");
    }

    /** Each one's coin is the change of the one ahead: 3210 alone goes. */
    private TillPipe backwards() {
        return shop("c1,2,4,8;t0", "4:d", "2:c", "1:b", "1:a");
    }

    /** One customer, 200. */
    private TillPipe one200() {
        return laid(shop("c1,2,3,4;p2", "4:adbc"), "b2 a0 b1 b0 a0 b1 c1");
    }

    /** One customer, 201. */
    private TillPipe one201() {
        return laid(shop("c1,2,3,5;p2", "2:dcba"), "b0 b1 b2 a0 b1 b0");
    }

    /** Either order: 49 and then 200. */
    private TillPipe both200() {
        return laid(shop("c3,6;p2;l4", "6:abaa", "6:abaa"), "b1 a1 a0 a0");
    }

    /** Order 01: 201; order 10: 29. */
    private TillPipe first201() {
        return laid(shop("c1,2,3,5;p2", "6:acb", "5:ccab"), "d0");
    }

    /** Order 01: 156; order 10: 201. */
    private TillPipe second201() {
        return laid(shop("c3,4,6;p2", "13:cabb", "3:bca"), "c0 b1 c1 c1 b1");
    }

    /** Order 01: none; order 10: 40 and then 201. */
    private TillPipe noneThen201() {
        return laid(shop("c2,3,6,8;p2", "17:dacc", "5:acba"), "d1 a0 a0 a0 d0");
    }

    /** Order 01: 201 behind the second; order 10: none. */
    private TillPipe first201ThenNone() {
        return laid(shop("c1,4,6,9;p2;l4", "13:cbda", "12:daca"), "a0 c2 a0 d1");
    }

    /** Order 021: 51, 201, 0; all others none and told. */
    private TillPipe middle201() {
        return laid(shop("c2,4;p2", "8:abab", "5:ab", "10:bab"), "a1 a1 b0");
    }

    /** Order 102: 49, 200, 0. */
    private TillPipe middle200() {
        return laid(shop("c1,3,6,9;p2;l4", "6:daba", "9:bdac", "2:d"), "c1 c0 c0 b1");
    }

    // ---- 15: row

    void p15_servedOrNot() {
        TillPipe x = three();
        due(x.row(12), 0);
        due(x.row(21), 0);
        due(x.row(102), 1);
        due(x.row(120), 1);
        due(x.row(201), 0);
        due(x.row(210), 1);
        due(backwards().row(3210), 1);
        due(backwards().row(3201), 0);
    }

    void p15_zerosAheadAreDigits() {
        due(three().row(12), 0);
        due(laid(three(), "b0").row(12), 1);
        due(backwards().row(123), 0);
        due(shop("c1", "1:a").row(0), 1);
        due(shop("c1", "1:a", "1:a").row(1), 1);
    }

    void p15_aRowHasEachCustomerOnce() {
        String[][] customers = {{"1:a"}, {"1:a", "1:a"}, {"1:a", "1:a", "1:a"}, {"1:a", "1:a", "1:a", "1:a"}};
        int[][] rows = {{0}, {1, 10}, {12, 21, 102, 120, 201, 210}, {123, 132, 213, 231, 312, 321, 1023, 1032, 1203, 1230,
            1302, 1320, 2013, 2031, 2103, 2130, 2301, 2310, 3012, 3021, 3102, 3120, 3201, 3210}};
        for (int n = 0; n < 4; n++) {
            for (int from = -30; from < 3400; from += 100) {
                TillPipe x = shop("c1;p2", customers[n]);
                for (int row = from; row < from + 100; row++) {
                    boolean due = false;
                    for (int one : rows[n]) {
                        due |= one == row;
                    }
                    due(x.row(row), due ? 1 : NONE);
                }
            }
        }
    }

    void p15_moreDigitsThanCustomersAreRefused() {
        for (int row : new int[] {1012, 3012, 10012, 20120, 100012, 1000000012, 2000000012, Integer.MAX_VALUE}) {
            leavesAll(NONE, this::busy, x -> x.row(row));
        }
        due(full().row(10123), NONE);
        due(full().row(43210), NONE);
    }

    void p15_belowZeroIsNoRow() {
        for (int row : new int[] {-1, -12, -102, Integer.MIN_VALUE}) {
            leavesAll(NONE, this::busy, x -> x.row(row));
        }
        due(shop("c1", "1:a").row(-10), NONE);
    }

    void p15_withoutCustomersThereIsNoRow() {
        due(shop("c1").row(0), NONE);
        leavesAll(NONE, this::bare, x -> x.row(0));
    }

    void p15_fromTheTillAsItIs() {
        TillPipe x = three();
        due(x.row(12), 0);
        laid(x, "b0");
        due(x.row(12), 1);
        due(x.lift(0), 1);
        due(x.row(12), 0);
    }

    void p15_200TillsAreTold() {
        due(one200().row(0), 1);
        due(both200().row(1), 1);
        due(both200().row(10), 1);
        due(middle200().row(102), 0);
    }

    void p15_201TillsAreNot() {
        due(one201().row(0), HIDDEN);
        due(first201().row(1), HIDDEN);
        due(first201().row(10), 1);
        due(second201().row(1), 1);
        due(second201().row(10), HIDDEN);
    }

    void p15_201TillsOnTheWayAreNotEither() {
        due(middle201().row(21), HIDDEN);
        due(middle201().row(12), 0);
        due(middle201().row(210), 0);
    }

    void p15_resultsAreToldBeyond200() {
        TillPipe x = one201();
        due(x.result(0, NONE), 201);
        due(x.row(0), HIDDEN);
    }

    void p15_toAskChangesNothing() {
        leavesAll(1, this::busy, x -> x.row(12));
        leavesAll(0, this::three, x -> x.row(12));
        leavesAll(HIDDEN, this::one201, x -> x.row(0));
    }

    // ---- 16: left

    void p16_howManyThereAre() {
        TillPipe x = shop("c1;p2;l2", "1:a", "1:a");
        due(x.left(1, NONE), 3);
        due(three().left(120, NONE), 1);
    }

    void p16_byTheirNumbers() {
        TillPipe x = shop("c1;p2;l2", "1:a", "1:a");
        due(x.left(10, 0), number("", "aa", ""));
        due(x.left(10, 1), number("a", "a", ""));
        due(x.left(10, 2), number("aa", "", ""));
    }

    void p16_behindTheLastThereIsNone() {
        TillPipe x = shop("c1;p2;l2", "1:a", "1:a");
        due(x.left(1, 3), NONE);
        due(x.left(1, Integer.MAX_VALUE), NONE);
    }

    void p16_ofARowThatCannotBeServedThereIsNone() {
        due(three().left(12, NONE), 0);
        due(three().left(12, 0), NONE);
        due(middle200().left(102, NONE), 0);
    }

    void p16_theLastOf200() {
        TillPipe x = one200();
        due(x.left(0, NONE), 200);
        due(x.left(0, 199), x.result(0, 199));
        due(x.left(0, 200), NONE);
        due(both200().left(1, NONE), 200);
        due(both200().left(1, 199) > both200().left(1, 198), true);
    }

    void p16_201AreNotTold() {
        due(one201().left(0, NONE), HIDDEN);
        due(one201().left(0, 0), HIDDEN);
        due(one201().left(0, 1000), HIDDEN);
        due(first201().left(1, NONE), HIDDEN);
        due(first201().left(10, NONE), 29);
        due(middle201().left(21, NONE), HIDDEN);
    }

    void p16_kBelowNoneIsRefusedAheadOfAll() {
        leavesAll(NONE, this::busy, x -> x.left(12, -2));
        leavesAll(NONE, this::busy, x -> x.left(12, Integer.MIN_VALUE));
        leavesAll(NONE, this::busy, x -> x.left(7, -2));
        leavesAll(NONE, this::one201, x -> x.left(0, -2));
        leavesAll(NONE, this::one201, x -> x.left(0, Integer.MIN_VALUE));
    }

    void p16_noSuchRowIsRefused() {
        for (int row : new int[] {-1, 0, 11, 13, 122, 1012, Integer.MIN_VALUE, Integer.MAX_VALUE}) {
            leavesAll(NONE, this::busy, x -> x.left(row, NONE));
            leavesAll(NONE, this::busy, x -> x.left(row, 0));
        }
        due(shop("c1").left(0, NONE), NONE);
        due(bare().left(0, NONE), NONE);
    }

    void p16_toAskChangesNothing() {
        leavesAll(1, this::three, x -> x.left(120, NONE));
        leavesAll(HIDDEN, this::one201, x -> x.left(0, NONE));
    }

    // ---- 17: aside

    void p17_noStepIsNeeded() {
        due(shop("c1", "1:a").aside(0), 0);
        due(shop("c1", "1:a").aside(1), 0);
        due(laid(three(), "b0").aside(0), 0);
        due(laid(three(), "b0").aside(1), 12);
    }

    void p17_sixStepsAreTheMost() {
        due(backwards().aside(0), 6);
        due(backwards().aside(1), 3210);
    }

    void p17_theFewestStepsAheadOfTheLeastNumber() {
        // 102 with two steps, 120 with one
        due(three().aside(0), 1);
        due(three().aside(1), 120);
    }

    void p17_ofSeveralOrdersTheFirst() {
        // 021 and 120 alone, a step each
        TillPipe x = laid(shop("c1,3;p2;l1", "3:b", "1:a", "2:bb"), "a0");
        due(x.aside(0), 1);
        due(x.aside(1), 21);
        // 102 and 201 alone, two steps each
        TillPipe y = laid(shop("c1,2,5;p2;l1", "1:ac", "2:b", "2:b"), "b0");
        due(y.aside(0), 2);
        due(y.aside(1), 102);
        // 210 alone
        TillPipe z = shop("c1,2,4;l2", "4:c", "2:cb", "4:bb");
        due(z.aside(0), 3);
        due(z.aside(1), 210);
    }

    void p17_whenNoOrderDoesThereIsNone() {
        TillPipe x = shop("c1,2,5", "9:a", "1:a");
        due(x.aside(0), NONE);
        due(x.aside(1), NONE);
        due(shop("c1", "2:a").aside(0), NONE);
    }

    void p17_withoutCustomersThereIsNone() {
        due(shop("c1").aside(0), NONE);
        due(shop("c1").aside(1), NONE);
        leavesAll(NONE, this::bare, x -> x.aside(0));
    }

    void p17_noSuchWhatIsRefused() {
        for (int what : new int[] {-1, -2, 2, Integer.MIN_VALUE, Integer.MAX_VALUE}) {
            leavesAll(NONE, this::busy, x -> x.aside(what));
            leavesAll(NONE, this::one201, x -> x.aside(what));
        }
    }

    void p17_anOrderThatIsLookedAtIsNotTold() {
        due(one201().aside(0), HIDDEN);
        due(one201().aside(1), HIDDEN);
        due(first201().aside(0), HIDDEN);
        due(first201().aside(1), HIDDEN);
        due(noneThen201().aside(0), HIDDEN);
        due(noneThen201().aside(1), HIDDEN);
        due(middle201().aside(0), HIDDEN);
    }

    void p17_anOrderBehindIsNotLookedAt() {
        due(second201().aside(0), 0);
        due(second201().aside(1), 1);
    }

    void p17_with200TillsItIsTold() {
        due(one200().aside(0), 0);
        due(both200().aside(1), 1);
    }

    void p17_toAskChangesNothing() {
        leavesAll(1, this::three, x -> x.aside(0));
        leavesAll(120, this::three, x -> x.aside(1));
        leavesAll(HIDDEN, this::one201, x -> x.aside(1));
    }

    // ---- 18: steps

    void p18_theLineAsItStandsNeedsNone() {
        due(shop("c1", "1:a").steps(0), 0);
        due(shop("c1", "1:a", "1:a").steps(1), 0);
        due(three().steps(12), 0);
        due(backwards().steps(123), 0);
    }

    void p18_theLineBackwardsNeedsTheMost() {
        due(shop("c1", "1:a", "1:a").steps(10), 1);
        due(three().steps(210), 3);
        due(backwards().steps(3210), 6);
    }

    void p18_eachOrderOfThree() {
        int[][] due = {{12, 0}, {21, 1}, {102, 2}, {120, 1}, {201, 2}, {210, 3}};
        for (int[] one : due) {
            due(three().steps(one[0]), one[1]);
        }
    }

    void p18_whoStepsAsideStandsBehindAllOthers() {
        // 3012: three aside and then all in line; 1230: one; 3201: 3, then 0 1 aside, then 0 1 in line
        due(backwards().steps(3012), 3);
        due(backwards().steps(1230), 1);
        due(backwards().steps(3201), 5);
        due(backwards().steps(1032), 4);
        due(backwards().steps(2301), 2);
    }

    void p18_noSuchRowIsRefused() {
        for (int row : new int[] {-1, 0, 11, 13, 122, 1012, Integer.MIN_VALUE, Integer.MAX_VALUE}) {
            leavesAll(NONE, this::busy, x -> x.steps(row));
        }
        due(shop("c1", "1:a").steps(1), NONE);
        due(shop("c1").steps(0), NONE);
        due(bare().steps(0), NONE);
        due(backwards().steps(210), NONE);
    }

    void p18_itIsToldWhereTheRowIsNot() {
        due(one201().steps(0), 0);
        due(first201().steps(1), 0);
    }

    // ---- 19: most

    void p19_fromNoneToAll() {
        due(shop("c1", "2:a").most(), 0);
        due(shop("c1", "1:a").most(), 1);
        due(shop("c1;p2", "1:a", "1:a", "1:a", "1:a").most(), 4);
        due(shop("c1;l3", "1:a", "1:a", "1:a", "1:a").most(), 3);
    }

    void p19_whoseTurnIsOverDoesNotComeAgain() {
        // all three could be served behind one another, but not the first one first
        due(three().most(), 2);
        due(three().chain(), 7);
        due(backwards().most(), 1);
    }

    void p19_whoCanBeServedMayBeSentHome() {
        due(shop("c1,5;l2;t0", "2:aa", "5:b", "1:a").most(), 2);
        due(shop("c1;l2", "2:aa", "1:a", "1:a").most(), 2);
    }

    void p19_ofTwoWaysToATillTheBetter() {
        // aa by the second alone, or by the first and the third
        due(shop("c1;l2", "1:a", "2:aa", "1:a").most(), 2);
    }

    void p19_askedAgainOfOtherTills() {
        TillPipe y = shop("c1,2,5;p2", "1:a", "1:b", "3:a");
        due(y.most(), 2);
        laid(y, "b0");
        due(y.most(), 2);
        TillPipe x = shop("c1;l4", "1:a", "1:a", "1:a", "1:a");
        due(x.most(), 4);
        laid(x, "a0 a0 a0");
        due(x.most(), 1);
        laid(x, "a0");
        due(x.most(), 0);
        due(x.lift(0), 0);
        due(x.most(), 1);
    }

    void p19_withoutCustomersThereIsNone() {
        due(shop("c1").most(), NONE);
        leavesAll(NONE, this::bare, x -> x.most());
    }

    void p19_200TillsOfAllChoicesAreTold() {
        // 199 behind the one who is served, and the one till behind who is sent home
        TillPipe x = laid(shop("c1,2,3,5;p2", "5:cdab"), "a0 a0 a0 c1 b0 a0");
        due(x.left(0, NONE), 199);
        due(x.most(), 1);
        due(laid(shop("c1,4,6;p2", "6:bcaa", "10:cabb"), "b1").most(), 2);
    }

    void p19_201TillsOfAllChoicesAreNot() {
        due(one200().row(0), 1);
        due(one200().most(), HIDDEN);
        TillPipe x = laid(shop("c2,3;p2", "1:abaa", "3:abb"), "a0 a0 a0 a0 b0");
        due(x.row(1), 1);
        due(x.most(), HIDDEN);
        due(one201().most(), HIDDEN);
    }

    void p19_anOrderThatIsNoLineIsNotLookedAt() {
        due(noneThen201().row(10), HIDDEN);
        due(noneThen201().most(), 1);
    }

    void p19_toAskChangesNothing() {
        leavesAll(2, this::three, x -> x.most());
        leavesAll(HIDDEN, this::one201, x -> x.most());
    }

    // ---- 20: dawn

    private void dueDawn(TillPipe x, int m, long coins, long till) {
        due(x.dawn(m, 0), coins);
        due(x.dawn(m, 1), till);
    }

    void p20_noCoinIsNeeded() {
        dueDawn(shop("c1,2,5", "2:b"), 1, 0, 0);
        dueDawn(shop("c1,2,5", "2:b", "1:a"), 2, 0, 0);
    }

    void p20_oneToThreeCoins() {
        dueDawn(shop("c1,5", "4:b"), 1, 1, number("a", "", ""));
        dueDawn(shop("c1,5", "3:b"), 1, 2, number("aa", "", ""));
        dueDawn(shop("c1,5", "2:b"), 1, 3, number("aaa", "", ""));
    }

    void p20_notWith3() {
        dueDawn(shop("c1,5", "1:b"), 1, NONE, NONE);
        dueDawn(shop("c1,5", "6:b"), 1, NONE, NONE);
    }

    void p20_aPipeTakesNoMoreThanItsLength() {
        dueDawn(shop("c1,5;l3", "2:b"), 1, 3, number("aaa", "", ""));
        dueDawn(shop("c1,5;l2", "2:b"), 1, NONE, NONE);
        dueDawn(shop("c1,5;l2", "3:b"), 1, 2, number("aa", "", ""));
        dueDawn(shop("c1,5;l1", "3:b"), 1, NONE, NONE);
        dueDawn(shop("c1,5;l1", "4:b"), 1, 1, number("a", "", ""));
        dueDawn(shop("c1,5;p2;l2", "2:b"), 1, NONE, NONE);
    }

    void p20_ofSeveralTheLeastNumber() {
        // 5 back: bc and cb; 4 back: ac, bb and ca
        dueDawn(shop("c1,2,3,9", "4:d"), 1, 2, number("bc", "", ""));
        dueDawn(shop("c1,2,3,9", "5:d"), 1, 2, number("ac", "", ""));
    }

    void p20_theFewestCoins() {
        dueDawn(shop("c1,2,5", "3:c"), 1, 1, number("b", "", ""));
        dueDawn(shop("c1,2,3,9", "6:d"), 1, 1, number("c", "", ""));
        dueDawn(shop("c1,2,4,9", "5:d"), 1, 1, number("c", "", ""));
    }

    void p20_coinsOfTheLastKindToo() {
        dueDawn(shop("c3,5", "7:aaaa"), 1, 1, number("b", "", ""));
        dueDawn(shop("c2,3,4,9", "5:d"), 1, 1, number("c", "", ""));
        dueDawn(shop("c3,5", "2:aaaa"), 1, 2, number("bb", "", ""));
    }

    void p20_eachOrderOfTheFirstTwo() {
        dueDawn(shop("c1,2,5;t0", "4:c", "1:a"), 2, 1, number("a", "", ""));
        dueDawn(shop("c1,2,5;t0", "1:a", "4:c"), 2, 1, number("a", "", ""));
        dueDawn(shop("c1,2,5", "4:c", "3:c"), 2, 2, number("ab", "", ""));
    }

    void p20_theFirstOneAlone() {
        dueDawn(shop("c1,2,5", "2:b", "4:c"), 1, 0, 0);
        dueDawn(shop("c1,2,5", "2:b", "9:a", "9:a"), 1, 0, 0);
    }

    void p20_mIs1Or2() {
        for (int m : new int[] {0, -1, 3, 4, Integer.MIN_VALUE, Integer.MAX_VALUE}) {
            for (int what = 0; what < 2; what++) {
                int one = what;
                leavesAll(NONE, this::busy, x -> x.dawn(m, one));
            }
        }
    }

    void p20_noMoreThanAreTold() {
        dueDawn(shop("c1,2", "1:a"), 2, NONE, NONE);
        dueDawn(shop("c1,2"), 1, NONE, NONE);
        dueDawn(bare(), 1, NONE, NONE);
    }

    void p20_noSuchWhatIsRefused() {
        for (int what : new int[] {-1, -2, 2, Integer.MIN_VALUE, Integer.MAX_VALUE}) {
            leavesAll(NONE, this::busy, x -> x.dawn(1, what));
        }
        due(shop("c3,5,8,11;p2", "32:cbdc", "14:acd").dawn(2, 2), NONE);
    }

    void p20_allElseIsEmpty() {
        TillPipe x = laid(shop("c1,5;p2", "4:b"), "a0 a1 a2 b0");
        dueDawn(x, 1, 1, number("a", "", ""));
        due(x.count(7), 4);
    }

    void p20_200TillsAreTold() {
        // the empty till: order 10 has 200 behind it
        dueDawn(shop("c1,4,5,8;p2", "20:dcbd", "10:cacb"), 2, 0, 0);
        dueDawn(shop("c2,3,6,9;p2", "12:bcd", "22:bcdc"), 2, 1, number("a", "", ""));
        dueDawn(shop("c1,3,6,9;p2", "12:dbc", "22:bccd"), 2, 2, number("aa", "", ""));
    }

    void p20_201TillsAreNot() {
        // with no coin, with a, with aa, with aaa
        dueDawn(shop("c3,5,8,11;p2", "32:cbdc", "14:acd"), 2, HIDDEN, HIDDEN);
        dueDawn(shop("c1,2,3,5;p2", "6:dbc", "9:ccba"), 2, HIDDEN, HIDDEN);
        dueDawn(shop("c1,4,5,8;p2", "20:bcdc", "9:cada"), 2, HIDDEN, HIDDEN);
        dueDawn(shop("c1,4,5,7;p2", "20:cbdd", "6:aabd"), 2, HIDDEN, HIDDEN);
    }

    void p20_anOrderIsNotLookedAtWhenOneAheadCannotBeServed() {
        // a till whose order 01 can't be served has an order 10 that would not be told
        dueDawn(shop("c3,5,7,10;p2", "21:dbad", "16:accb"), 2, 2, number("ac", "", ""));
        dueDawn(shop("c2,3,5,6;p2", "15:cdac", "11:cbba"), 2, 1, number("b", "", ""));
        dueDawn(shop("c1,3,6,8;p2", "6:adba", "24:cddc"), 2, 3, 1850000);
    }

    void p20_toAskChangesNothing() {
        leavesAll(1, this::three, x -> x.dawn(1, 0));
        leavesAll(HIDDEN, () -> shop("c3,5,8,11;p2", "32:cbdc", "14:acd"), x -> x.dawn(2, 1));
    }

    // ---- 21: breaks

    void p21_theFirstOrderThatCannotBeServed() {
        due(three().breaks(1), 0);
        due(three().breaks(2), 1);
        due(three().breaks(3), 12);
        due(backwards().breaks(4), 123);
        TillPipe x = laid(shop("c1,2,5;t0", "3:c", "1:a"), "b0");
        due(x.breaks(2), 10);
    }

    void p21_whenAllCanBeServedThereIsNone() {
        TillPipe x = shop("c1;p2", "1:a", "1:a", "1:a", "1:a");
        for (int m = 1; m <= 4; m++) {
            due(x.breaks(m), NONE);
        }
    }

    void p21_theFirstOnesAlone() {
        TillPipe x = shop("c1", "1:a", "1:a", "9:a");
        due(x.breaks(1), NONE);
        due(x.breaks(2), NONE);
        due(x.breaks(3), 12);
    }

    void p21_theLastOf24OrdersMayBeIt() {
        TillPipe x = laid(shop("c1,3;l4", "2:ab", "1:a", "3:ba", "1:ab"), "a0 b0");
        due(x.breaks(3), NONE);
        due(x.breaks(4), 3210);
        due(x.row(3201), 1);
    }

    void p21_mIs1To4() {
        for (int m : new int[] {0, -1, 4, 5, Integer.MIN_VALUE, Integer.MAX_VALUE}) {
            leavesAll(NONE, this::busy, x -> x.breaks(m));
        }
        due(backwards().breaks(5), NONE);
        due(backwards().breaks(0), NONE);
    }

    void p21_noMoreThanAreTold() {
        due(shop("c1,2", "2:a").breaks(2), NONE);
        due(shop("c1,2").breaks(1), NONE);
        due(bare().breaks(1), NONE);
    }

    void p21_fromTheTillAsItIs() {
        TillPipe x = three();
        due(x.breaks(1), 0);
        laid(x, "b0");
        due(x.breaks(1), NONE);
    }

    void p21_200TillsAreTold() {
        due(one200().breaks(1), NONE);
        due(both200().breaks(2), NONE);
    }

    void p21_201TillsAreNot() {
        due(one201().breaks(1), HIDDEN);
        due(second201().breaks(2), HIDDEN);
        due(first201().breaks(2), HIDDEN);
        due(first201ThenNone().breaks(2), HIDDEN);
    }

    void p21_behindTheFirstThatCannotBeServedNoneIsLookedAt() {
        due(noneThen201().breaks(2), 1);
        due(middle201().breaks(3), 12);
    }

    void p21_toAskChangesNothing() {
        leavesAll(12, this::three, x -> x.breaks(3));
        leavesAll(HIDDEN, this::one201, x -> x.breaks(1));
    }
}
