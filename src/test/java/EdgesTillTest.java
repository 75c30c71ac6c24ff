/** Boundary cases of promises 8 to 14: the till, what payings leave of it, the serving of a customer. */
public final class EdgesTillTest extends Edges {
    public static void main(String[] args) {
        new EdgesTillTest().runAll(8, 9, 10, 11, 12, 13, 14);
    }

    // ---- 8: lay

    void p08_aPipeTakesAsManyAsItsLength() {
        for (int length = 1; length <= 5; length++) {
            TillPipe x = shop("c1,2;p2;l" + length);
            for (int i = 0; i < length; i++) {
                due(x.lay(i % 2, 0), true);
                due(x.lay(1, 1), true);
            }
            due(x.lay(0, 0), false);
            due(x.lay(0, 1), false);
            due(x.count(7), 2 * length);
        }
    }

    void p08_aFullPipeRefuses() {
        leavesAll(0, this::full, x -> bit(x.lay(0, 0)));
        leavesAll(0, this::full, x -> bit(x.lay(3, 1)));
    }

    void p08_aFullPipeHindersNoOther() {
        TillPipe x = laid(shop("c1;p2;l1"), "a0");
        due(x.lay(0, 0), false);
        due(x.lay(0, 1), true);
        due(x.lay(0, 2), true);
    }

    void p08_withOnePipeThereIsNoSecond() {
        leavesAll(0, () -> shop("c1;p1", "1:a"), x -> bit(x.lay(0, 1)));
        leavesAll(0, () -> shop("c1", "1:a"), x -> bit(x.lay(0, 1)));
        due(shop("c1;p2").lay(0, 1), true);
    }

    void p08_theTrayTakesOneCoin() {
        TillPipe x = laid(shop("c1,2"), "b2");
        due(x.lay(0, 2), false);
        due(x.lay(1, 2), false);
        due(x.tray(1), 1);
        due(x.tray(0), 0);
        leavesAll(0, this::full, y -> bit(y.lay(1, 2)));
    }

    void p08_aTrayOfNoneTakesNone() {
        leavesAll(0, () -> shop("c1,2;t0", "1:a"), x -> bit(x.lay(0, 2)));
        due(shop("c1,2;t1").lay(0, 2), true);
    }

    void p08_noSuchPlaceIsRefused() {
        for (int where : new int[] {-1, 3, 4, Integer.MIN_VALUE, Integer.MAX_VALUE}) {
            leavesAll(0, this::busy, x -> bit(x.lay(0, where)));
        }
    }

    void p08_noSuchKindIsRefused() {
        for (int kind : new int[] {-1, 3, 4, Integer.MIN_VALUE, Integer.MAX_VALUE}) {
            leavesAll(0, this::busy, x -> bit(x.lay(kind, 0)));
            leavesAll(0, () -> shop("c1,2,5", "1:a"), x -> bit(x.lay(kind, 2)));
        }
        due(shop("c1").lay(1, 0), false);
        due(shop("c1,2,3,4").lay(3, 0), true);
    }

    void p08_withoutAShopNothingIsLaid() {
        leavesAll(0, this::bare, x -> bit(x.lay(0, 0)));
        leavesAll(0, this::bare, x -> bit(x.lay(0, 2)));
    }

    void p08_behindALiftThereIsRoomAgain() {
        TillPipe x = laid(shop("c1;l1"), "a0");
        due(x.lift(0), 0);
        due(x.lay(0, 0), true);
        due(x.lay(0, 0), false);
    }

    // ---- 9: lift

    void p09_theTopCoinOfAPipeIsTaken() {
        TillPipe x = laid(shop("c1,2,5,9;p2"), "d0 a0 b1 c1");
        due(x.lift(0), 0);
        due(x.till(), number("d", "bc", ""));
        due(x.lift(1), 2);
        due(x.till(), number("d", "b", ""));
        due(x.lift(0), 3);
        due(x.lift(1), 1);
        due(x.till(), 0);
    }

    void p09_ofAnEmptyPipeNothingIsTaken() {
        leavesAll(NONE, () -> laid(shop("c1,2;p2", "1:a"), "a1 a2"), x -> x.lift(0));
        leavesAll(NONE, () -> laid(shop("c1,2;p2", "1:a"), "a0 a2"), x -> x.lift(1));
    }

    void p09_aFullPipeIsEmptyBehindItsLengthOfLifts() {
        TillPipe x = laid(shop("c1,2"), "b0 a0 b0 a0 b0");
        int[] due = {1, 0, 1, 0, 1, NONE, NONE};
        for (int kind : due) {
            due(x.lift(0), kind);
        }
    }

    void p09_noSuchPipeIsRefused() {
        for (int pipe : new int[] {-1, 2, 3, Integer.MIN_VALUE, Integer.MAX_VALUE}) {
            leavesAll(NONE, this::busy, x -> x.lift(pipe));
        }
        leavesAll(NONE, () -> laid(shop("c1", "1:a"), "a0 a2"), x -> x.lift(1));
        leavesAll(NONE, this::bare, x -> x.lift(0));
    }

    void p09_theTrayIsNoPipe() {
        leavesAll(NONE, () -> laid(shop("c1;p2", "1:a"), "a2"), x -> x.lift(2));
    }

    // ---- 10: coin

    void p10_coin0IsTheLowest() {
        TillPipe x = laid(shop("c1,2,5;p2"), "c0 a0 b0 b1");
        due(x.coin(0, 0), 2);
        due(x.coin(0, 1), 0);
        due(x.coin(0, 2), 1);
        due(x.coin(1, 0), 1);
    }

    void p10_aboveTheTopThereIsNone() {
        TillPipe x = laid(shop("c1,2,5;p2"), "c0 a0 b0 b1");
        due(x.coin(0, 3), NONE);
        due(x.coin(1, 1), NONE);
        due(x.coin(0, 5), NONE);
        due(x.coin(0, Integer.MAX_VALUE), NONE);
        due(shop("c1").coin(0, 0), NONE);
    }

    void p10_theFifthCoinOfAFullPipe() {
        TillPipe x = laid(shop("c1,2,5,9"), "d0 a0 b0 c0 d0");
        due(x.coin(0, 4), 3);
        due(x.coin(0, 0), 3);
        due(x.coin(0, 5), NONE);
    }

    void p10_belowTheLowestThereIsNone() {
        leavesAll(NONE, this::busy, x -> x.coin(0, -1));
        leavesAll(NONE, this::busy, x -> x.coin(0, Integer.MIN_VALUE));
    }

    void p10_noSuchPipeIsRefused() {
        for (int pipe : new int[] {-1, 2, Integer.MIN_VALUE, Integer.MAX_VALUE}) {
            leavesAll(NONE, this::busy, x -> x.coin(pipe, 0));
        }
        due(laid(shop("c1"), "a0").coin(1, 0), NONE);
        due(bare().coin(0, 0), NONE);
    }

    // ---- 11: tray

    void p11_howManyOfAKindLieThere() {
        TillPipe x = shop("c1,2,5,9");
        for (int kind = 0; kind < 4; kind++) {
            due(x.tray(kind), 0);
        }
        laid(x, "d2");
        for (int kind = 0; kind < 4; kind++) {
            due(x.tray(kind), kind == 3 ? 1 : 0);
        }
    }

    void p11_coinsInPipesAreNotThere() {
        due(laid(shop("c1;p2"), "a0 a1").tray(0), 0);
    }

    void p11_noSuchKindIsRefused() {
        for (int kind : new int[] {-1, -31, -32, 3, 4, 32, 33, Integer.MIN_VALUE, Integer.MAX_VALUE}) {
            leavesAll(NONE, this::busy, x -> x.tray(kind));
            leavesAll(NONE, this::full, x -> x.tray(kind < 3 ? kind : kind + 1));
        }
        due(shop("c1").tray(1), NONE);
        due(bare().tray(0), NONE);
    }

    // ---- 12: till

    void p12_withoutAShopThereIsNone() {
        due(new TillPipe().till(), NONE);
        leavesAll(NONE, this::bare, x -> x.till());
    }

    void p12_theEmptyTillIs0() {
        due(shop("c1").till(), 0);
    }

    void p12_theLowestCoinIsTheHighestDigit() {
        due(laid(shop("c1,2,5;p2"), "c0 a0 b1 c1").till(), ((3 * 5 + 1) * 3125 + 2 * 5 + 3) * 16);
    }

    void p12_aMissingPipeIsEmpty() {
        due(laid(shop("c1"), "a0").till(), 3125 * 16);
        due(laid(shop("c1;p2"), "a1").till(), 16);
    }

    void p12_kindAIsTheLowestDigitOfTheTray() {
        String[] coins = {"a2", "b2", "c2", "d2"};
        for (int kind = 0; kind < 4; kind++) {
            due(laid(shop("c1,2,5,9"), coins[kind]).till(), 1 << kind);
        }
    }

    void p12_theGreatestTill() {
        TillPipe x = laid(shop("c1,2,5,9;p2"), "d0 d0 d0 d0 d0 d1 d1 d1 d1 d1 d2");
        due(x.till(), (3124L * 3125 + 3124) * 16 + 8);
        due(x.count(7), 11);
    }

    // ---- 13: result

    void p13_howManyThereAre() {
        TillPipe x = laid(shop("c1,2,5", "4:c", "9:a", "5:c"), "a0 a0");
        due(x.result(0, NONE), 2);
        due(x.result(1, NONE), 0);
        due(x.result(2, NONE), 1);
    }

    void p13_byTheirNumbers() {
        TillPipe x = shop("c1;p2;l2", "2:aa");
        due(x.result(0, 0), number("", "aa", ""));
        due(x.result(0, 1), number("a", "a", ""));
        due(x.result(0, 2), number("aa", "", ""));
    }

    void p13_behindTheLastThereIsNone() {
        TillPipe x = shop("c1;p2;l2", "2:aa", "3:aa");
        due(x.result(0, 3), NONE);
        due(x.result(0, Integer.MAX_VALUE), NONE);
        due(x.result(1, 0), NONE);
    }

    void p13_kBelowNoneIsRefused() {
        leavesAll(NONE, this::busy, x -> x.result(0, -2));
        leavesAll(NONE, this::busy, x -> x.result(0, Integer.MIN_VALUE));
        leavesAll(NONE, this::busy, x -> x.result(3, -2));
    }

    void p13_noSuchCustomerIsRefused() {
        for (int customer : new int[] {-1, 3, 4, Integer.MIN_VALUE, Integer.MAX_VALUE}) {
            leavesAll(NONE, this::busy, x -> x.result(customer, NONE));
            leavesAll(NONE, this::busy, x -> x.result(customer, 0));
        }
        due(bare().result(0, NONE), NONE);
    }

    void p13_toAskChangesNothing() {
        leavesAll(2, this::busy, x -> x.result(2, NONE));
        leavesAll(busy().result(2, 1), this::busy, x -> x.result(2, 1));
    }

    void p13_asManyAs607AreTold() {
        // no till, no shop has a customer of more RESULTS: NOTES.md says why
        TillPipe x = laid(shop("c1,2,3,4;p2", "1:abcd"), "a0 a0 a0 b0 a1 a1 a1 a1 c1");
        due(x.result(0, NONE), 607);
        due(x.result(0, 606) > x.result(0, 605), true);
        due(x.result(0, 607), NONE);
    }

    void p13_exactlyThePriceIsEnough() {
        due(shop("c1,2", "2:b").result(0, NONE), 1);
        due(shop("c1,2", "3:ab").result(0, NONE), 1);
        due(shop("c1,2", "8:bbbb").result(0, NONE), 1);
        due(shop("c99", "99:a").result(0, NONE), 1);
    }

    void p13_oneLessThanThePriceIsNot() {
        due(shop("c1,2", "3:b").result(0, NONE), 0);
        due(shop("c1,2", "9:bbbb").result(0, NONE), 0);
        due(shop("c98", "99:a").result(0, NONE), 0);
    }

    void p13_itGivesAnySetThatIsEnough() {
        // b alone, a and a, with change a and b, two a's and b; not a alone
        TillPipe x = laid(shop("c1,2;t0", "2:aab"), "a0 a0");
        due(x.result(0, NONE), 4);
        due(x.result(0, 0), number("aab", "", ""));
        due(x.result(0, 1), number("aba", "", ""));
        due(x.result(0, 2), number("baa", "", ""));
        due(x.result(0, 3), number("aaaa", "", ""));
    }

    void p13_withoutChangeNothingIsTaken() {
        TillPipe x = laid(shop("c1,2", "2:b"), "a0 a0");
        due(x.result(0, NONE), 1);
        due(x.result(0, 0), number("aab", "", ""));
    }

    void p13_whenNothingIsLeftNoMoreIsTaken() {
        // 4 by c: a goes out; the a below it would fit the tray
        TillPipe x = laid(shop("c1,2,5", "4:c"), "b0 a0");
        due(x.result(0, NONE), 1);
        due(x.result(0, 0), number("bc", "", ""));
    }

    void p13_aTopWorthWhatIsLeftIsGiven() {
        TillPipe x = laid(shop("c1,2,5;t0", "3:c"), "b0");
        due(x.result(0, 0), number("c", "", ""));
    }

    void p13_aTopWorthMoreGoesOntoTheTray() {
        TillPipe x = laid(shop("c1,2,5", "4:c"), "a0 b0");
        due(x.result(0, NONE), 1);
        due(x.result(0, 0), number("c", "", "b"));
    }

    void p13_aTopWorthMoreStopsAFullTray() {
        due(laid(shop("c1,2,5", "4:c"), "a0 b0 c2").result(0, NONE), 0);
        due(laid(shop("c1,2,5;t0", "4:c"), "a0 b0").result(0, NONE), 0);
        due(laid(shop("c1,2,5", "4:c"), "a0 b0 b0").result(0, NONE), 0);
    }

    void p13_aTopThatFitsMayGoOntoTheTrayToo() {
        TillPipe x = laid(shop("c1,2,5", "4:c"), "a0 a0");
        due(x.result(0, NONE), 2);
        due(x.result(0, 0), number("c", "", "a"));
        due(x.result(0, 1), number("ac", "", ""));
        due(laid(shop("c1,2,5;t0", "4:c"), "a0 a0").result(0, NONE), 1);
    }

    void p13_aTrayCoinWorthWhatIsLeftIsGiven() {
        TillPipe x = laid(shop("c1,2,5", "3:c"), "b2");
        due(x.result(0, NONE), 1);
        due(x.result(0, 0), number("c", "", ""));
    }

    void p13_aTrayCoinWorthMoreIsNot() {
        due(laid(shop("c1,2,5", "4:c"), "b2").result(0, NONE), 0);
    }

    void p13_theTraysCoinGivenMakesRoom() {
        // 3 back: a from the tray, c onto it, b
        TillPipe x = laid(shop("c1,2,5", "2:c"), "b0 c0 a2");
        due(x.result(0, NONE), 1);
        due(x.result(0, 0), number("c", "", "c"));
    }

    void p13_theTrayKeepsItsCoins() {
        TillPipe x = laid(shop("c1,2,5", "5:c"), "b2");
        due(x.result(0, NONE), 1);
        due(x.result(0, 0), number("c", "", "b"));
    }

    void p13_whatIsGivenIsNoChange() {
        TillPipe x = shop("c1,2,5", "5:cb");
        due(x.result(0, NONE), 1);
        due(x.result(0, 0), number("c", "", ""));
        due(shop("c1,2,5", "4:cab").result(0, NONE), 0);
    }

    void p13_changeOutMakesRoomForWhatComesIn() {
        TillPipe x = laid(shop("c1,2,5;l1;t0", "4:c"), "a0");
        due(x.result(0, 0), number("c", "", ""));
        TillPipe y = laid(shop("c1,2,5;l2;t0", "4:c"), "c0 a0");
        due(y.result(0, 0), number("cc", "", ""));
    }

    void p13_withoutRoomThereIsNoPaying() {
        due(laid(shop("c1,2,5;l1", "5:c"), "a0").result(0, NONE), 0);
        due(shop("c1;l1", "2:aa").result(0, NONE), 0);
        due(laid(shop("c1"), "a0 a0 a0 a0").count(7), 4);
        due(laid(shop("c1", "2:aa"), "a0 a0 a0 a0").result(0, NONE), 0);
        due(laid(shop("c1;p2;l1", "2:aa"), "a0").result(0, NONE), 0);
    }

    void p13_whatComesInFillsTheLastPlace() {
        due(laid(shop("c1", "1:a"), "a0 a0 a0 a0").result(0, 0), number("aaaaa", "", ""));
        due(shop("c1;p2;l1", "2:aa").result(0, 0), number("a", "a", ""));
        due(shop("c1;p2;l2", "4:aaaa").result(0, 0), number("aa", "aa", ""));
    }

    void p13_aFullPipeLeavesTheOther() {
        TillPipe x = laid(shop("c1,2;p2;l1", "2:b"), "a0");
        due(x.result(0, NONE), 1);
        due(x.result(0, 0), number("a", "b", ""));
        TillPipe y = laid(shop("c1,2;p2;l1", "2:b"), "a1");
        due(y.result(0, NONE), 1);
        due(y.result(0, 0), number("b", "a", ""));
    }

    void p13_theGreatestGoesInFirst() {
        due(shop("c1,2,5", "8:abc").result(0, 0), number("cba", "", ""));
        due(shop("c1,2,5", "8:cab").result(0, NONE), 1);
        TillPipe x = shop("c1,2;p2;l2", "3:ab");
        due(x.result(0, NONE), 4);
        due(x.result(0, 0), number("", "ba", ""));
        due(x.result(0, 1), number("a", "b", ""));
        due(x.result(0, 2), number("b", "a", ""));
        due(x.result(0, 3), number("ba", "", ""));
    }

    void p13_thoseOfOneKindGoInOneByOne() {
        TillPipe x = shop("c1;p2;l4", "4:aaaa");
        due(x.result(0, NONE), 5);
        due(x.result(0, 2), number("aa", "aa", ""));
    }

    void p13_eachTillOnce() {
        // either a goes out, and c comes in by each of two ways
        TillPipe x = laid(shop("c1,2,5;p2;t0", "4:c"), "a0 a1");
        due(x.result(0, NONE), 4);
        // a given from the tray, or from the pipe with the tray's a staying: alike but for where a lies
        TillPipe y = laid(shop("c1,2", "1:b"), "a0 a2");
        due(y.result(0, NONE), 2);
        due(y.result(0, 0), number("b", "", "a"));
        due(y.result(0, 1), number("ab", "", ""));
    }

    void p13_aPipeThatIsMissingTakesNothing() {
        due(shop("c1;p1", "1:a").result(0, NONE), 1);
        due(shop("c1;p2", "1:a").result(0, NONE), 2);
    }

    // ---- 14: serve

    void p14_theChosenResultIsTheTill() {
        for (int k = 0; k < 3; k++) {
            TillPipe x = shop("c1;p2;l2", "2:aa");
            long result = x.result(0, k);
            due(x.serve(0, k), 1);
            due(x.till(), result);
        }
    }

    void p14_howOftenThatCustomerWasServed() {
        TillPipe x = shop("c1;p2", "1:a", "1:a");
        due(x.serve(0, 0), 1);
        due(x.serve(1, 0), 1);
        due(x.serve(0, 0), 2);
        due(x.serve(0, 0), 3);
        due(x.serve(1, 0), 2);
    }

    void p14_byARuleCountsToo() {
        TillPipe x = shop("c1;p2", "1:a");
        rules(x, "y:0");
        due(x.by(0, 0), 1);
        due(x.serve(0, 0), 2);
    }

    void p14_behindTheLastResultIsRefused() {
        leavesAll(NONE, this::busy, x -> x.serve(2, 2));
        leavesAll(NONE, this::busy, x -> x.serve(2, Integer.MAX_VALUE));
        due(busy().result(2, NONE), 2);
        due(busy().serve(2, 1), 3);
    }

    void p14_noneIsNoResult() {
        leavesAll(NONE, this::busy, x -> x.serve(2, NONE));
        leavesAll(NONE, this::busy, x -> x.serve(2, HIDDEN));
        leavesAll(NONE, this::busy, x -> x.serve(2, Integer.MIN_VALUE));
    }

    void p14_whoHasNoResultIsNotServed() {
        leavesAll(NONE, () -> shop("c1,2", "3:a", "1:a"), x -> x.serve(0, 0));
        leavesAll(NONE, this::full, x -> x.serve(1, 0));
    }

    void p14_noSuchCustomerIsRefused() {
        for (int customer : new int[] {-1, 3, 4, Integer.MIN_VALUE, Integer.MAX_VALUE}) {
            leavesAll(NONE, this::busy, x -> x.serve(customer, 0));
        }
        leavesAll(NONE, this::bare, x -> x.serve(0, 0));
    }

    void p14_theLastOf607ResultsIsServed() {
        TillPipe x = laid(shop("c1,2,3,4;p2", "1:abcd"), "a0 a0 a0 b0 a1 a1 a1 a1 c1");
        long last = x.result(0, 606);
        due(x.serve(0, 607), NONE);
        due(x.serve(0, 606), 1);
        due(x.till(), last);
    }
}
