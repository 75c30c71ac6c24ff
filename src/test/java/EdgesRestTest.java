/** Boundary cases of promises 28 to 36 and 38 to 40: the till looked at, what customers are to one another, images, counts. */
public final class EdgesRestTest extends Edges {
    public static void main(String[] args) {
        new EdgesRestTest().runAll(28, 29, 30, 31, 32, 33, 34, 35, 36, 38, 39, 40);
    }

    private static final int[] NO_CUSTOMERS = {-1, -2, 3, 4, Integer.MIN_VALUE, Integer.MAX_VALUE};
    private static final int[] NO_WHATS = {-1, -2, 2, 3, Integer.MIN_VALUE, Integer.MAX_VALUE};

    private TillPipe three() {
        return shop("c1,2,5", "3:c", "2:b", "1:aa");
    }

    /** Each one's coin is the change of the one ahead. */
    private TillPipe backwards() {
        return shop("c1,2,4,8;t0", "4:d", "2:c", "1:b", "1:a");
    }

    /** One customer whose 201 RESULTS are told, where rows are not. */
    private TillPipe one201() {
        return laid(shop("c1,2,3,5;p2", "2:dcba"), "b0 b1 b2 a0 b1 b0");
    }

    /** Order 01: 156 tills; order 10: 201. */
    private TillPipe second201() {
        return laid(shop("c3,4,6;p2", "13:cabb", "3:bca"), "c0 b1 c1 c1 b1");
    }

    // ---- 28: served

    void p28_nobodyWasServedYet() {
        TillPipe x = three();
        for (int customer = 0; customer < 3; customer++) {
            due(x.served(customer), 0);
        }
    }

    void p28_eachServingCounts() {
        TillPipe x = shop("c1;p2", "1:a", "1:a", "1:a", "1:a");
        rules(x, "y:0");
        due(x.serve(3, 0), 1);
        due(x.by(0, 3), 1);
        due(x.by(0, 0), 1);
        due(x.served(0), 1);
        due(x.served(1), 0);
        due(x.served(3), 2);
    }

    void p28_whoIsRefusedIsNotCounted() {
        TillPipe x = shop("c1", "2:a", "1:a");
        rules(x, "y:0");
        due(x.serve(0, 0), NONE);
        due(x.by(0, 0), 0);
        due(x.serve(1, 1), NONE);
        due(x.served(0), 0);
        due(x.served(1), 0);
    }

    void p28_inTheShopAsItStandsAlone() {
        TillPipe x = shop("c1;p2", "1:a");
        rules(x, "y:0");
        due(x.run(0, 0), 1);
        due(x.day(0, 9, 1), 9);
        due(x.mean(0, 9, 2, 0), 18);
        due(x.worst(0, 0), 1);
        due(x.best(0, 0, 0), 0);
        due(x.row(0), 1);
        due(x.served(0), 0);
    }

    void p28_noSuchCustomerIsRefused() {
        for (int customer : NO_CUSTOMERS) {
            leavesAll(NONE, this::busy, x -> x.served(customer));
        }
        due(full().served(4), NONE);
        due(bare().served(0), NONE);
        due(shop("c1").served(0), NONE);
    }

    // ---- 29: cover

    void p29_aTopHasNoneAbove() {
        due(laid(shop("c1,2"), "b0 a0").cover(0), 0);
        due(laid(shop("c1,2;p2"), "b1").cover(1), 0);
    }

    void p29_theLowestOfAFullPipeHasFour() {
        due(laid(shop("c1,2"), "b0 a0 a0 a0 a0").cover(1), 4);
        due(laid(shop("c1,2;p2"), "b1 a1 a1 a1 a1").cover(1), 4);
    }

    void p29_theHighestOfSeveralInAPipe() {
        due(laid(shop("c1,2"), "a0 b0 a0 b0 b0").cover(0), 2);
    }

    void p29_theFewestOfBothPipes() {
        TillPipe x = laid(shop("c1,2,5;p2"), "a0 b0 b0 c0 c1 a1 b1 a1");
        due(x.cover(0), 0);
        due(x.cover(1), 1);
        due(x.cover(2), 0);
        due(laid(shop("c1,2;p2"), "a0 b0 a1 b1 b1").cover(0), 1);
        due(laid(shop("c1,2;p2"), "a0 b0 b0 a1 b1").cover(0), 1);
    }

    void p29_inOnePipeAlone() {
        due(laid(shop("c1,2,5;p2"), "a0 b0 b0 c1").cover(0), 2);
        due(laid(shop("c1,2,5;p2"), "c0 a1 b1 b1").cover(0), 2);
    }

    void p29_onTheTrayItIs0() {
        due(laid(shop("c1,2"), "a0 b0 a2").cover(0), 0);
        due(laid(shop("c1,2"), "b0 a2").cover(0), 0);
    }

    void p29_eachKindOnTheTray() {
        String[] coins = {"a2", "b2", "c2", "d2"};
        for (int kind = 0; kind < 4; kind++) {
            TillPipe x = laid(shop("c1,2,5,9"), coins[kind]);
            for (int other = 0; other < 4; other++) {
                due(x.cover(other), other == kind ? 0 : NONE);
            }
        }
    }

    void p29_theTrayCoversNothing() {
        due(laid(shop("c1,2"), "a0 b0 b2").cover(0), 1);
    }

    void p29_whereThereIsNone() {
        leavesAll(NONE, () -> laid(shop("c1,2;p2", "1:a"), "a0 a1 a2"), x -> x.cover(1));
        due(shop("c1").cover(0), NONE);
    }

    void p29_noSuchKindIsRefused() {
        for (int kind : new int[] {-1, -2, -30, -31, -32, 3, 4, 31, 32, 33, 34, Integer.MIN_VALUE, Integer.MAX_VALUE}) {
            leavesAll(NONE, this::busy, x -> x.cover(kind));
            leavesAll(NONE, this::full, x -> x.cover(kind < 3 ? kind : kind + 1));
        }
        due(bare().cover(0), NONE);
    }

    // ---- 30: change

    void p30_from1To99() {
        due(laid(shop("c1,99"), "a0").change(1, 0), 1);
        due(laid(shop("c1,99"), "b0").change(99, 0), 1);
        due(laid(shop("c1,99"), "b0").change(99, 1), 1);
        due(shop("c1").change(1, 0), 0);
        due(shop("c1").change(99, 0), 0);
        due(shop("c1").change(1, 1), NONE);
        due(shop("c1").change(99, 1), NONE);
    }

    void p30_outOfBoundsItIsHidden() {
        for (int much : new int[] {0, -1, 100, 101, Integer.MIN_VALUE, Integer.MAX_VALUE}) {
            leavesAll(HIDDEN, this::busy, x -> x.change(much, 0));
            leavesAll(HIDDEN, this::busy, x -> x.change(much, 1));
        }
        due(laid(shop("c50"), "a0 a0").change(100, 0), HIDDEN);
    }

    void p30_noSuchWhatIsHidden() {
        for (int what : NO_WHATS) {
            leavesAll(HIDDEN, this::busy, x -> x.change(2, what));
        }
    }

    void p30_withoutAShopItIsHidden() {
        leavesAll(HIDDEN, this::bare, x -> x.change(1, 0));
        leavesAll(HIDDEN, this::bare, x -> x.change(1, 1));
        due(bare().change(0, 5), HIDDEN);
    }

    void p30_oneMoreThanAllThereIsCannotBe() {
        TillPipe x = laid(shop("c1,2;p2"), "a0 b0 b1 a2");
        due(x.change(6, 0), 1);
        due(x.change(6, 1), 4);
        due(x.change(7, 0), 0);
        due(x.change(7, 1), NONE);
    }

    void p30_aTopWorthWhatIsLeftIsGiven() {
        TillPipe x = laid(shop("c1,2,5;t0"), "a0 c0");
        due(x.change(5, 1), 1);
        due(x.change(6, 1), 2);
        due(x.change(4, 0), 0);
        due(x.change(1, 0), 0);
    }

    void p30_aCoinPutAsideIsAMove() {
        TillPipe x = laid(shop("c1,2,5"), "a0 c0");
        due(x.change(1, 0), 1);
        due(x.change(1, 1), 2);
        due(laid(shop("c1,2,5"), "a0 b0 c0").change(1, 0), 0);
    }

    void p30_aFullTrayTakesNoneAside() {
        due(laid(shop("c1,2,5"), "a0 c0 b2").change(1, 0), 0);
        due(laid(shop("c1,2,5"), "a0 c0 b2").change(3, 1), 3);
    }

    void p30_aTrayCoinIsOneMove() {
        TillPipe x = laid(shop("c1,2,5"), "b2");
        due(x.change(2, 1), 1);
        due(x.change(1, 0), 0);
        due(laid(shop("c1,2,5"), "a0 b2").change(3, 1), 2);
    }

    void p30_theFewestMoves() {
        // 5: c at once, or a's and b; 2: b from pipe 1, or two a's
        TillPipe x = laid(shop("c1,2,5;p2"), "c0 b0 a0 a0 b1");
        due(x.change(2, 1), 1);
        due(x.change(3, 1), 2);
        due(x.change(4, 1), 3);
        due(x.change(5, 1), 4);
        due(laid(shop("c1,2,5;p2"), "a0 a0 a0 a0 a0 c1").change(5, 1), 1);
        due(laid(shop("c1,2,5;p2"), "c0 a1 a1 a1 a1 a1").change(5, 1), 1);
    }

    void p30_elevenMovesAreTheMost() {
        TillPipe x = laid(shop("c1;p2"), "a0 a0 a0 a0 a0 a1 a1 a1 a1 a1 a2");
        due(x.change(11, 1), 11);
        due(x.change(12, 1), NONE);
    }

    void p30_fromTheTillAsItIs() {
        TillPipe x = laid(shop("c1"), "a0");
        due(x.change(1, 0), 1);
        due(x.lift(0), 0);
        due(x.change(1, 0), 0);
    }

    void p30_toAskChangesNothing() {
        leavesAll(1, this::busy, x -> x.change(2, 0));
        leavesAll(1, this::busy, x -> x.change(2, 1));
    }

    // ---- 31: amounts

    void p31_noneOfAnEmptyTill() {
        due(shop("c1").amounts(), 0);
    }

    void p31_howManyCanBeGiven() {
        due(laid(shop("c1,2,5;t0"), "a0 b0 c0").amounts(), 3);
        due(laid(shop("c1,2,5"), "a0 b0 c0").amounts(), 6);
        due(laid(shop("c1;p2"), "a0 a0 a0 a0 a0 a1 a1 a1 a1 a1 a2").amounts(), 11);
    }

    void p31_99IsOneOfThem() {
        due(laid(shop("c1,99"), "b0").amounts(), 1);
        due(laid(shop("c49,50;p2"), "a0 b1").amounts(), 3);
    }

    void p31_100IsNone() {
        due(laid(shop("c50"), "a0 a0").amounts(), 1);
        due(laid(shop("c1,99;p2"), "b0 a1").amounts(), 2);
    }

    void p31_1IsOneOfThem() {
        due(laid(shop("c1"), "a0").amounts(), 1);
        due(laid(shop("c1"), "a2").amounts(), 1);
    }

    void p31_withoutAShopThereIsNone() {
        due(new TillPipe().amounts(), NONE);
        leavesAll(NONE, this::bare, x -> x.amounts());
    }

    void p31_toAskChangesNothing() {
        leavesAll(busy().amounts(), this::busy, x -> x.amounts());
    }

    // ---- 32: helps

    void p32_whoHelps() {
        due(three().helps(0), 2);
        due(backwards().helps(2), 8);
        due(shop("c1,2,5;t0", "3:c", "2:b", "1:a", "2:ab").helps(0), 2 + 8);
    }

    void p32_nobodyHelpsWhoHasTooLittle() {
        due(shop("c1,2", "9:a", "1:a", "2:b").helps(0), 0);
    }

    void p32_whoCannotBeServedDoesNotHelp() {
        // customer 1 would bring b, but has too little
        due(shop("c1,2,5", "3:c", "3:b").helps(0), 0);
        due(backwards().helps(0), 0);
    }

    void p32_oneResultOfTheOtherIsEnough() {
        // b and a in pipes of their own help; a on b, both in one pipe, does not
        TillPipe x = shop("c1,2,5;p2;t0", "3:c", "3:ab");
        due(x.result(1, NONE), 4);
        due(x.helps(0), 2);
        due(shop("c1,2,5;p1;t0", "3:c", "3:ab").helps(0), 0);
    }

    void p32_aloneNobodyHelps() {
        due(shop("c1", "2:a").helps(0), 0);
    }

    void p32_whoCanBeServedIsRefused() {
        leavesAll(NONE, this::three, x -> x.helps(1));
        leavesAll(NONE, this::busy, x -> x.helps(0));
        due(one201().helps(0), NONE);
    }

    void p32_noSuchCustomerIsRefused() {
        for (int customer : NO_CUSTOMERS) {
            leavesAll(NONE, this::three, x -> x.helps(customer));
        }
        due(bare().helps(0), NONE);
        due(backwards().helps(4), NONE);
    }

    void p32_toAskChangesNothing() {
        leavesAll(2, this::three, x -> x.helps(0));
    }

    // ---- 33: spoils

    void p33_whoSpoils() {
        // 1:a covers b, 9:a can't be served, 2:b does no harm
        due(laid(shop("c1,2,5;t0", "3:c", "2:b", "1:a", "9:a"), "b0").spoils(0), 4);
        due(shop("c1;l1", "1:a", "1:a", "1:a", "1:a").spoils(0), 2 + 4 + 8);
        due(shop("c1;l1", "1:a", "1:a", "1:a", "1:a").spoils(3), 1 + 2 + 4);
    }

    void p33_nobodySpoils() {
        due(shop("c1", "1:a", "1:a", "1:a").spoils(0), 0);
        due(three().spoils(1), 0);
    }

    void p33_oneResultThatLeavesItIsEnough() {
        // a onto pipe 1 leaves b free
        due(laid(shop("c1,2,5;p2;t0", "3:c", "1:a"), "b0").spoils(0), 0);
        due(laid(shop("c1,2,5;p1;t0", "3:c", "1:a"), "b0").spoils(0), 2);
    }

    void p33_whoCannotBeServedDoesNotSpoil() {
        due(shop("c1;l1", "1:a", "2:a").spoils(0), 0);
    }

    void p33_aloneNobodySpoils() {
        due(shop("c1", "1:a").spoils(0), 0);
    }

    void p33_whoCannotBeServedIsRefused() {
        leavesAll(NONE, this::three, x -> x.spoils(0));
        due(shop("c1", "2:a", "1:a").spoils(0), NONE);
    }

    void p33_noSuchCustomerIsRefused() {
        for (int customer : NO_CUSTOMERS) {
            leavesAll(NONE, this::three, x -> x.spoils(customer));
        }
        due(bare().spoils(0), NONE);
        due(full().spoils(4), NONE);
    }

    void p33_itIsToldWhereRowsAreNot() {
        due(one201().spoils(0), 0);
        due(second201().row(10), HIDDEN);
        due(second201().spoils(0), 0);
    }

    void p33_toAskChangesNothing() {
        leavesAll(0, this::three, x -> x.spoils(1));
    }

    // ---- 34: wise

    void p34_theResultBehindWhichTheMostCanBe() {
        // a onto pipe 1 covers b, onto pipe 0 not
        TillPipe x = laid(shop("c1,2,5;p2;t0", "3:c", "1:a"), "b1");
        due(x.wise(1, 0), 1);
        due(x.wise(1, 1), 1);
    }

    void p34_ofSeveralTheLowest() {
        TillPipe x = shop("c1;p2", "1:a", "1:a");
        due(x.result(0, NONE), 2);
        due(x.wise(0, 0), 0);
        due(x.wise(0, 1), 1);
        TillPipe none = shop("c1,2;p2", "1:a", "9:a");
        due(none.wise(0, 0), 0);
        due(none.wise(0, 1), 0);
    }

    void p34_eachOfTheOthersAlone() {
        // either of the two could be served in the one place left, and both are counted
        TillPipe x = shop("c1;l2", "1:a", "1:a", "1:a", "1:a");
        due(x.wise(0, 1), 3);
        due(x.row(123), 0);
    }

    void p34_itselfIsNotCounted() {
        due(shop("c1", "1:a").wise(0, 1), 0);
        due(shop("c1", "1:a").wise(0, 0), 0);
        due(shop("c1", "9:a", "1:a").wise(1, 1), 0);
    }

    void p34_withoutResultsThereIsNone() {
        leavesAll(NONE, this::three, x -> x.wise(0, 0));
        leavesAll(NONE, this::three, x -> x.wise(0, 1));
    }

    void p34_noSuchCustomerIsRefused() {
        for (int customer : NO_CUSTOMERS) {
            leavesAll(NONE, this::three, x -> x.wise(customer, 0));
            leavesAll(NONE, this::three, x -> x.wise(customer, 1));
        }
        due(bare().wise(0, 0), NONE);
        due(full().wise(4, 0), NONE);
    }

    void p34_noSuchWhatIsRefused() {
        for (int what : NO_WHATS) {
            leavesAll(NONE, this::three, x -> x.wise(1, what));
        }
    }

    void p34_itIsToldWhereRowsAreNot() {
        due(one201().wise(0, 0), 0);
        due(one201().wise(0, 1), 0);
    }

    void p34_toAskChangesNothing() {
        leavesAll(2, this::three, x -> x.wise(1, 1));
        leavesAll(0, this::three, x -> x.wise(1, 0));
    }

    // ---- 35: rich

    /** [b] and a aside, 2 coins; [ab], 2; [ba], 2; [aaa], 3: those are its RESULTS by their NUMBERS. */
    private TillPipe fourResults() {
        return laid(shop("c1,2", "1:ab", "9:a"), "a0 a0");
    }

    void p35_theMostAndTheFewestCoins() {
        due(fourResults().rich(0, 0), 3);
        due(fourResults().rich(0, 1), 0);
        TillPipe x = laid(shop("c1,2;t0", "1:ab"), "a0");
        due(x.result(0, 0), number("b", "", ""));
        due(x.result(0, 1), number("aa", "", ""));
        due(x.rich(0, 0), 1);
        due(x.rich(0, 1), 0);
    }

    void p35_ofSeveralTheLowest() {
        TillPipe x = shop("c1;p2", "1:a");
        due(x.result(0, NONE), 2);
        due(x.rich(0, 0), 0);
        due(x.rich(0, 1), 0);
    }

    void p35_thePoorestMayBeBehindTheRichest() {
        // change by b of pipe 0, or by two a's of pipe 1: 3 coins, 2, 3, 2
        TillPipe x = laid(shop("c1,2,5;p2;t0", "3:c"), "b0 a1 a1");
        due(x.result(0, NONE), 4);
        due(x.result(0, 0), number("", "aac", ""));
        due(x.result(0, 3), number("bc", "", ""));
        due(x.rich(0, 0), 0);
        due(x.rich(0, 1), 1);
    }

    void p35_theTrayCountsToo() {
        // both [] with a given and a aside, and [a] with none: [c] and a, [ac]
        TillPipe x = laid(shop("c1,2,5", "4:c"), "a0 a0");
        due(x.rich(0, 0), 0);
        due(x.rich(0, 1), 0);
    }

    void p35_withoutResultsThereIsNone() {
        leavesAll(NONE, this::three, x -> x.rich(0, 0));
        leavesAll(NONE, this::three, x -> x.rich(0, 1));
    }

    void p35_noSuchCustomerIsRefused() {
        for (int customer : NO_CUSTOMERS) {
            leavesAll(NONE, this::three, x -> x.rich(customer, 0));
            leavesAll(NONE, this::three, x -> x.rich(customer, 1));
        }
        due(bare().rich(0, 0), NONE);
        due(full().rich(4, 0), NONE);
    }

    void p35_noSuchWhatIsRefused() {
        for (int what : NO_WHATS) {
            leavesAll(NONE, this::three, x -> x.rich(1, what));
        }
    }

    void p35_itIsToldWhereRowsAreNot() {
        due(one201().rich(0, 0) >= 0, true);
        due(one201().rich(0, 1) >= 0, true);
    }

    void p35_toAskChangesNothing() {
        leavesAll(3, this::fourResults, x -> x.rich(0, 0));
        leavesAll(0, this::fourResults, x -> x.rich(0, 1));
    }

    // ---- 36: chain

    void p36_fromNoneToAll() {
        due(shop("c1", "2:a", "9:a").chain(), 0);
        due(shop("c1", "2:a", "1:a").chain(), 2);
        due(three().chain(), 7);
        due(backwards().chain(), 15);
    }

    void p36_theMostAheadOfTheLeastBits() {
        due(shop("c1,2,5;l2;t0", "2:aa", "1:a", "2:b").chain(), 6);
    }

    void p36_ofSeveralTheLeastBits() {
        due(shop("c1;l1", "9:a", "1:a", "1:a").chain(), 2);
        due(shop("c1;l2", "1:a", "1:a", "1:a", "1:a").chain(), 3);
    }

    void p36_bitsAreComparedAsNumbers() {
        // 0 and 3 together, 1 and 2 together, 1 and 3, 2 and 3: 9, 6, 10, 12
        due(shop("c1;l4", "3:aaa", "2:aa", "2:aa", "1:a").chain(), 6);
    }

    void p36_askedAgainOfOtherTills() {
        TillPipe x = shop("c1;l4", "1:a", "1:a", "1:a", "1:a");
        due(x.chain(), 15);
        laid(x, "a0 a0 a0");
        due(x.chain(), 1);
        laid(x, "a0");
        due(x.chain(), 0);
        due(x.lift(0), 0);
        due(x.chain(), 1);
    }

    void p36_inAnOrderOfTheirs() {
        due(laid(shop("c1,2,5;t0", "1:a", "3:c"), "b0").chain(), 3);
        due(laid(shop("c1,2,5;t0", "3:c", "1:a"), "b0").chain(), 3);
    }

    void p36_withoutCustomersThereIsNone() {
        due(shop("c1").chain(), NONE);
        leavesAll(NONE, this::bare, x -> x.chain());
    }

    void p36_with200TillsItIsTold() {
        due(laid(shop("c1,2,3,4;p2", "4:adbc"), "b2 a0 b1 b0 a0 b1 c1").chain(), 1);
        due(laid(shop("c3,6;p2;l4", "6:abaa", "6:abaa"), "b1 a1 a0 a0").chain(), 3);
    }

    void p36_with201TillsOfOneOrderItIsNot() {
        due(one201().chain(), HIDDEN);
        // order 01 is told and serves both
        due(second201().row(1), 1);
        due(second201().chain(), HIDDEN);
        // of three orders 021 alone, of which nobody is served at last
        due(laid(shop("c2,4;p2", "8:abab", "5:ab", "10:bab"), "a1 a1 b0").chain(), HIDDEN);
    }

    void p36_toAskChangesNothing() {
        leavesAll(7, this::three, x -> x.chain());
        leavesAll(HIDDEN, this::one201, x -> x.chain());
    }

    // ---- 38: image

    void p38_howManyCoinsThereAre() {
        due(shop("c1").image(), 0);
        due(laid(shop("c1;p2"), "a0 a1 a1 a2").image(), 4);
        due(laid(shop("c1;p2"), "a0 a0 a0 a0 a0 a1 a1 a1 a1 a1 a2").image(), 11);
    }

    void p38_insteadOfTheOneAhead() {
        TillPipe x = laid(shop("c1;p2"), "a0");
        due(x.image(), 1);
        laid(x, "a1");
        due(x.image(), 2);
        due(x.lift(1), 0);
        due(x.lift(0), 0);
        due(x.back(), 2);
        due(x.till(), number("a", "a", ""));
    }

    void p38_withoutAShopThereIsNone() {
        leavesAll(NONE, this::bare, x -> x.image());
        TillPipe x = bare();
        due(x.image(), NONE);
        due(tell(x, "c1", SHOP), 1);
        due(x.back(), NONE);
    }

    void p38_theTillStaysAsItIs() {
        TillPipe x = laid(shop("c1,2;p2", "1:a"), "a0 b0 b1 a2");
        due(x.serve(0, 0), 1);
        long till = x.till();
        due(x.image(), 5);
        due(x.till(), till);
        due(x.served(0), 1);
    }

    // ---- 39: back

    void p39_theTillIsSoAgain() {
        TillPipe x = laid(shop("c1,2;p2"), "a0 b0 b1 a2");
        due(x.image(), 4);
        due(x.lift(0), 1);
        laid(x, "a1");
        due(x.back(), 4);
        due(x.till(), number("ab", "b", "a"));
    }

    void p39_whoWasServedIsSoAgain() {
        TillPipe x = shop("c1;p2", "1:a", "1:a");
        due(x.serve(0, 0), 1);
        due(x.image(), 1);
        due(x.serve(0, 0), 2);
        due(x.serve(1, 0), 1);
        due(x.back(), 1);
        due(x.served(0), 1);
        due(x.served(1), 0);
        due(x.serve(0, 0), 2);
    }

    void p39_anImageOfNothing() {
        TillPipe x = shop("c1", "1:a");
        due(x.image(), 0);
        due(x.serve(0, 0), 1);
        due(x.back(), 0);
        due(x.till(), 0);
        due(x.served(0), 0);
    }

    void p39_asOftenAsOneLikes() {
        TillPipe x = laid(shop("c1"), "a0");
        due(x.image(), 1);
        for (int i = 0; i < 3; i++) {
            due(x.lift(0), 0);
            due(x.back(), 1);
            due(x.till(), number("a", "", ""));
        }
    }

    void p39_withoutAnImageThereIsNone() {
        leavesAll(NONE, () -> laid(shop("c1", "1:a"), "a0"), x -> x.back());
        leavesAll(NONE, this::bare, x -> x.back());
    }

    void p39_ofAnotherShopThereIsNone() {
        TillPipe x = busy();
        due(tell(x, "c1,2,5;p2;l4", SHOP), 3);
        laid(x, "a0");
        due(x.back(), NONE);
        due(x.till(), number("a", "", ""));
        due(x.image(), 1);
        due(x.back(), 1);
    }

    void p39_anImageOutlastsARefusedShop() {
        TillPipe x = busy();
        x.end(0);
        feed(x, "c2,1");
        due(x.text(SHOP), NONE);
        due(x.back() >= 0, true);
    }

    void p39_customersRulesAndTapeStay() {
        TillPipe x = shop("c1;p2", "1:a");
        due(x.image(), 0);
        due(tell(x, "1:a", CUSTOMER), 1);
        due(x.serve(1, 0), 1);
        rules(x, "y:i");
        feed(x, "c9");
        due(x.back(), 0);
        due(x.count(4), 2);
        due(x.served(1), 0);
        due(x.count(5), 1);
        due(x.count(6), 2);
    }

    // ---- 40: count

    void p40_eachCount() {
        TillPipe x = laid(shop("c1,2,5;p2;l4;t0", "1:a", "2:b"), "a0 b1 c1");
        rules(x, "y:1");
        feed(x, "c1,2");
        int[] due = {3, 2, 4, 0, 2, 1, 4, 3};
        for (int what = 0; what < due.length; what++) {
            due(x.count(what), due[what]);
        }
    }

    void p40_theMostOfEach() {
        TillPipe x = shop("c1,2,5,9;p2", "1:a", "1:a", "1:a", "1:a");
        rules(x, "y:0", "y:1", "y:2", "y:3");
        laid(x, "a0 a0 a0 a0 a0 a1 a1 a1 a1 a1 a2");
        feed(x, " ".repeat(160));
        int[] due = {4, 2, 5, 1, 4, 4, 160, 11};
        for (int what = 0; what < due.length; what++) {
            due(x.count(what), due[what]);
        }
    }

    void p40_theLeastOfEach() {
        TillPipe x = shop("c1;l1;t0");
        int[] due = {1, 1, 1, 0, 0, 0, 0, 0};
        for (int what = 0; what < due.length; what++) {
            due(x.count(what), due[what]);
        }
    }

    void p40_theTraysCoinIsOne() {
        due(laid(shop("c1"), "a2").count(7), 1);
    }

    void p40_othersAreHidden() {
        for (int what : new int[] {-1, -2, 8, 9, Integer.MIN_VALUE, Integer.MAX_VALUE}) {
            leavesAll(HIDDEN, this::busy, x -> x.count(what));
        }
        due(new TillPipe().count(8), HIDDEN);
        due(new TillPipe().count(-1), HIDDEN);
    }

    void p40_theConstants() {
        due(TillPipe.NONE, -1);
        due(TillPipe.HIDDEN, -2);
    }
}
