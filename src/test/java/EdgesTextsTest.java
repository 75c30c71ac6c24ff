/** Boundary cases of promises 1 to 7: the tape, texts and their faults, what texts tell. */
public final class EdgesTextsTest extends Edges {
    private static final String TWENTY = "                    ";

    public static void main(String[] args) {
        new EdgesTextsTest().runAll(1, 2, 3, 4, 5, 6, 7);
    }

    private static String blanks(int n) {
        return " ".repeat(n);
    }

    // ---- 1: a new object

    void p01_aNewObjectHasNoShop() {
        TillPipe x = new TillPipe();
        due(x.till(), NONE);
        due(x.image(), NONE);
        due(x.back(), NONE);
        due(x.amounts(), NONE);
        due(x.change(1, 0), HIDDEN);
        due(valueThrows(x, 0), true);
        for (int what = 0; what < 8; what++) {
            due(x.count(what), 0);
        }
    }

    void p01_twoObjectsHaveNothingInCommon() {
        TillPipe one = busy();
        TillPipe other = new TillPipe();
        due(other.till(), NONE);
        due(other.count(5), 0);
        due(tell(other, "c1", SHOP), 1);
        due(one.count(0), 3);
        due(one.count(6), 4);
    }

    void p01_the512thCallStillAnswers() {
        TillPipe x = new TillPipe();
        for (int i = 1; i < 506; i++) {
            due(x.count(6), 0);
        }
        due(x.feed(0x63310000, 0, 0, 0, 0), 2);
        due(x.text(SHOP), 1);
        due(x.lay(0, 0), true);
        due(x.image(), 1);
        due(x.lift(0), 0);
        due(x.back(), 1);
        due(x.till(), 50000);
    }

    // ---- 2: feed

    void p02_ofEachNumberTheHighestByteComesFirst() {
        TillPipe x = new TillPipe();
        due(x.feed(0x63312c32, 0x2c352c39, 0x3b70323b, 0x6c343b74, 0x30202020), 20);
        due(x.text(SHOP), 4);
        due(x.value(2), 5);
        due(x.count(2), 4);
        due(x.count(3), 0);
    }

    void p02_bytesOf0AreLeftOut() {
        TillPipe x = new TillPipe();
        due(x.feed(0x00630031, 0, 0x2c000000, 0x00003200, 0x20), 5);
        due(x.text(SHOP), 2);
        due(x.value(1), 2);
    }

    void p02_zerosAloneAddNothing() {
        TillPipe x = new TillPipe();
        due(x.feed(0, 0, 0, 0, 0), 0);
        feed(x, "c1");
        due(x.feed(0, 0, 0, 0, 0), 2);
    }

    void p02_bytesAbove127AreBytesToo() {
        TillPipe x = new TillPipe();
        due(x.feed(-1, 0x80808080, Integer.MIN_VALUE, 0x000000ff, 0x00ff0000), 11);
        due(x.fault(SHOP), 0);
    }

    void p02_160BytesAreTaken() {
        TillPipe x = new TillPipe();
        for (int i = 1; i <= 8; i++) {
            due(x.feed(-1, -1, -1, -1, -1), 20 * i);
        }
        due(x.count(6), 160);
        due(x.feed(0, 0, 0, 0, 0), 160);
    }

    void p02_theLastOf160BytesCounts() {
        TillPipe x = new TillPipe();
        feed(x, blanks(158) + "c1");
        due(x.count(6), 160);
        due(x.fault(SHOP), NONE);
        due(x.text(SHOP), 1);
    }

    void p02_161BytesAreRefused() {
        due(feed(fed(new TillPipe(), blanks(160)), "c"), NONE);
        due(feed(fed(new TillPipe(), blanks(141)), TWENTY), NONE);
        due(feed(fed(new TillPipe(), blanks(140)), TWENTY), 160);
        due(fed(new TillPipe(), blanks(150)).feed(0x20202020, 0x20202020, 0x20202000, 0, 0), NONE);
    }

    void p02_aRefusedFeedAddsNoneOfItsBytes() {
        leavesAll(NONE, () -> fed(busy(), blanks(145)), x -> x.feed(-1, -1, -1, -1, -1));
        leavesAll(NONE, () -> fed(bare(), blanks(156)), x -> x.feed(0x20202020, 0x20000000, 0, 0, 0));
    }

    // ---- 3: end

    void p03_theTapeHasItsFirstBytesAlone() {
        TillPipe x = fed(new TillPipe(), "c1,2,5");
        due(x.end(4), true);
        due(x.count(6), 4);
        due(x.text(SHOP), 2);
    }

    void p03_endAtItsLengthLeavesAll() {
        leavesAll(1, this::busy, x -> bit(x.end(4)));
        leavesAll(1, () -> new TillPipe(), x -> bit(x.end(0)));
    }

    void p03_end0LeavesNone() {
        TillPipe x = fed(new TillPipe(), "c1");
        due(x.end(0), true);
        due(x.count(6), 0);
        due(x.fault(SHOP), 0);
    }

    void p03_whatWasCutOffIsGone() {
        TillPipe x = fed(new TillPipe(), "c1,2");
        due(x.end(3), true);
        due(x.end(4), false);
        due(feed(x, "9"), 4);
        due(x.text(SHOP), 2);
        due(x.value(1), 9);
    }

    void p03_nAboveTheLengthIsRefused() {
        leavesAll(0, this::busy, x -> bit(x.end(5)));
        leavesAll(0, this::busy, x -> bit(x.end(160)));
        leavesAll(0, this::busy, x -> bit(x.end(Integer.MAX_VALUE)));
        due(new TillPipe().end(1), false);
    }

    void p03_nBelow0IsRefused() {
        leavesAll(0, this::busy, x -> bit(x.end(-1)));
        leavesAll(0, this::busy, x -> bit(x.end(Integer.MIN_VALUE)));
    }

    // ---- 4: fault, of all texts

    void p04_anEmptyTapeEndsTooEarlyAt0() {
        dueFault(SHOP, "", 0);
        dueFault(CUSTOMER, "", 0);
        dueFault(RULE, "", 0);
    }

    void p04_blanksAloneEndTooEarlyAtTheirLength() {
        for (int sort = 0; sort < 3; sort++) {
            dueFault(sort, " ", 1);
            dueFault(sort, blanks(160), 160);
        }
    }

    void p04_aShopThatEndsTooEarlyIsWrongAtItsLength() {
        for (String text : new String[] {"c", "c1,", "c1, ", "c1,2,3,", "c1;", "c1;p", "c1;p ", "c1;p2;", "c1;p2;l", "c1;l5;",
            "c1;l5;t", "c1;p1;l1;t"}) {
            dueFault(SHOP, text, text.length());
        }
    }

    void p04_aCustomerThatEndsTooEarlyIsWrongAtItsLength() {
        for (String text : new String[] {"1", "99", "99 ", "1:", "1: "}) {
            dueFault(CUSTOMER, text, text.length());
        }
    }

    void p04_aRuleThatEndsTooEarlyIsWrongAtItsLength() {
        for (String text : new String[] {"y", "y:", "y: ", "y:1+", "y:1-", "y:v*", "y:v/", "y:[", "y:[1", "y:[[1]", "y:!", "y:(",
            "y:(1=1", "y:(1=1)", "y:!1=1", "y:1=", "y:1=1", "y:1<1|", "y:1>1&", "y:1=1?", "y:1;", "y:1;y", "y:1;y:"}) {
            dueFault(RULE, text, text.length());
        }
    }

    void p04_aTextWithoutAFaultHasNone() {
        dueFine(SHOP, "c1", "c1,2,3,4;p2;l5;t1");
        dueFine(CUSTOMER, "1:a", "99:abcd");
        dueFine(RULE, "y:0", "y:v=t&n<1|!(i>s)?[o+1]*2;y:9999");
    }

    void p04_thereAreThreeSorts() {
        for (int sort : new int[] {-1, 3, HIDDEN, Integer.MIN_VALUE, Integer.MAX_VALUE}) {
            leavesAll(-2, this::busy, x -> x.fault(sort));
        }
    }

    void p04_toLookForFaultsChangesNothing() {
        leavesAll(NONE, () -> fed(refilled(busy()), "c7;l1;t0"), x -> x.fault(SHOP));
        leavesAll(NONE, () -> fed(refilled(busy()), "y:9999;y:i"), x -> x.fault(RULE));
        leavesAll(NONE, () -> fed(new TillPipe(), "c7,8;p2"), x -> x.fault(SHOP));
        leavesAll(0, this::busy, x -> x.fault(SHOP));
        leavesAll(NONE, this::busy, x -> x.fault(CUSTOMER));
        leavesAll(0, this::busy, x -> x.fault(RULE));
    }

    void p04_aThirdDigitIsWrongItself() {
        dueFault(SHOP, "c100", 3);
        dueFault(SHOP, "c000", 3);
        dueFault(SHOP, "c001", 3);
        dueFault(SHOP, "c5,050", 5);
        dueFault(SHOP, "c5,400", 5);
        dueFault(SHOP, "c1;p100", 6);
        dueFault(SHOP, "c1;p001", 6);
        dueFault(SHOP, "c1;l123", 6);
        dueFault(SHOP, "c1;t000", 6);
        dueFault(CUSTOMER, "100:a", 2);
        dueFault(CUSTOMER, "000:a", 2);
        dueFault(CUSTOMER, " 9999:a", 3);
    }

    void p04_blanksMayStandBetweenAllSigns() {
        dueFine(SHOP, " c 1 , 2 , 30 ; p 2 ; l 3 ; t 0 ", blanks(158) + "c1", "c1" + blanks(158));
        dueFine(CUSTOMER, " 12 : a b  c   d ");
        dueFine(RULE, " y : ! ( v = 1 | t < 2 ) & n > 3 ? [ 10 + s ] * 2 - o / i ; y : 4 ");
    }

    void p04_blanksWithinNumbersAreWrong() {
        dueFault(SHOP, "c1 2", 3);
        dueFault(SHOP, "c1,2  3", 6);
        dueFault(SHOP, "c1;l0 5", 4);
        dueFault(SHOP, "c1;l5 5", 6);
        dueFault(CUSTOMER, "1 2:a", 2);
        dueFault(RULE, "y:1 2", 4);
        dueFault(RULE, "y:v=1 2", 6);
    }

    void p04_onlySign32IsABlank() {
        for (int sign : new int[] {9, 10, 13, 31, 33, 160}) {
            dueFault(SHOP, "c1" + (char) sign, 2);
            dueFault(CUSTOMER, (char) sign + "1:a", 0);
            dueFault(RULE, "y" + (char) sign + ":1", 1);
        }
    }

    void p04_faultsBehindBlanksAreAtTheSign() {
        dueFault(SHOP, "  x", 2);
        dueFault(SHOP, "c 1 , 1", 6);
        dueFault(CUSTOMER, " 1 : e", 5);
        dueFault(RULE, "y : )", 4);
    }

    void p04_capitalLettersAreOthers() {
        dueFault(SHOP, "C1", 0);
        dueFault(SHOP, "c1;P1", 3);
        dueFault(CUSTOMER, "1:A", 2);
        dueFault(RULE, "Y:1", 0);
        dueFault(RULE, "y:V", 2);
    }

    void p04_bytesAbove127AreWrong() {
        dueFault(SHOP, "c1" + (char) 177, 2);
        dueFault(CUSTOMER, "1:a" + (char) 225, 3);
        dueFault(RULE, "y:1" + (char) 255, 3);
    }

    void p04_nothingStandsBehindAText() {
        dueFault(SHOP, "c1x", 2);
        dueFault(SHOP, "c1:", 2);
        dueFault(SHOP, "c1;p2,", 5);
        dueFault(CUSTOMER, "1:a1", 3);
        dueFault(CUSTOMER, "1:a;", 3);
        dueFault(CUSTOMER, "1:a,b", 3);
        dueFault(RULE, "y:1y", 3);
        dueFault(RULE, "y:1)", 3);
        dueFault(RULE, "y:1]", 3);
        dueFault(RULE, "y:1=1?2)", 7);
    }

    // ---- 4: fault of a shop

    void p04_aShopHas1To4Kinds() {
        dueFine(SHOP, "c1", "c1,2", "c1,2,3", "c1,2,3,4");
        dueFault(SHOP, "c;", 1);
        dueFault(SHOP, "c,", 1);
    }

    void p04_theCommaAheadOfAFifthValueIsWrong() {
        dueFault(SHOP, "c1,2,3,4,5", 8);
        dueFault(SHOP, "c1,2,3,4,", 8);
        dueFault(SHOP, "c1,2,3,4 ,5", 9);
        dueFault(SHOP, "c10,20,30,40,", 12);
    }

    void p04_aValueIs1To99() {
        dueFine(SHOP, "c1", "c01", "c9", "c09", "c99", "c98,99", "c1,99");
        dueFault(SHOP, "c-1", 1);
    }

    void p04_aValueOf0IsWrongAtItsLastDigit() {
        dueFault(SHOP, "c0", 1);
        dueFault(SHOP, "c00", 2);
        dueFault(SHOP, "c0,5", 1);
        dueFault(SHOP, "c00,5", 2);
        dueFault(SHOP, "c5,0", 3);
        dueFault(SHOP, "c5,00", 4);
    }

    void p04_aValueNotAboveTheOneAheadIsWrongAtItsLastDigit() {
        dueFault(SHOP, "c5,5", 3);
        dueFault(SHOP, "c5,05", 4);
        dueFault(SHOP, "c5,4", 3);
        dueFault(SHOP, "c12,12", 5);
        dueFault(SHOP, "c12,11,13", 5);
        dueFault(SHOP, "c1,3,3", 5);
        dueFault(SHOP, "c1,3,2", 5);
        dueFault(SHOP, "c1,2,30,29", 9);
    }

    void p04_aValue1AboveTheOneAheadIsFine() {
        dueFine(SHOP, "c5,6", "c96,97,98,99", "c9,10", "c1,02,3");
    }

    void p04_behind99NoValueIsAbove() {
        dueFault(SHOP, "c99,99", 5);
        dueFault(SHOP, "c99,9", 4);
        dueFault(SHOP, "c98,99,99", 8);
        dueFault(SHOP, "c99,", 4);
    }

    void p04_pipesAre1Or2() {
        dueFine(SHOP, "c1;p1", "c1;p2", "c1;p01", "c1;p02");
        dueFault(SHOP, "c1;p0", 4);
        dueFault(SHOP, "c1;p00", 5);
        dueFault(SHOP, "c1;p3", 4);
        dueFault(SHOP, "c1;p03", 5);
        dueFault(SHOP, "c1;p12", 5);
        dueFault(SHOP, "c1;p21", 5);
    }

    void p04_lengthIs1To5() {
        dueFine(SHOP, "c1;l1", "c1;l2", "c1;l3", "c1;l4", "c1;l5", "c1;l05");
        dueFault(SHOP, "c1;l0", 4);
        dueFault(SHOP, "c1;l6", 4);
        dueFault(SHOP, "c1;l06", 5);
        dueFault(SHOP, "c1;l15", 5);
    }

    void p04_theTrayTakes0Or1() {
        dueFine(SHOP, "c1;t0", "c1;t1", "c1;t00", "c1;t01");
        dueFault(SHOP, "c1;t2", 4);
        dueFault(SHOP, "c1;t02", 5);
        dueFault(SHOP, "c1;t10", 5);
    }

    void p04_eachPartMayBeLeftOut() {
        dueFine(SHOP, "c1", "c1;p2", "c1;l2", "c1;t0", "c1;p2;l2", "c1;p2;t0", "c1;l2;t0", "c1;p2;l2;t0");
    }

    void p04_partsInAnotherOrderAreWrong() {
        dueFault(SHOP, "c1;l1;p1", 6);
        dueFault(SHOP, "c1;t1;p1", 5);
        dueFault(SHOP, "c1;t1;l1", 5);
        dueFault(SHOP, "c1;p1;t1;l1", 8);
        dueFault(SHOP, "p1;c1", 0);
    }

    void p04_aPartTwiceIsWrong() {
        dueFault(SHOP, "c1;p1;p1", 6);
        dueFault(SHOP, "c1;l1;l1", 6);
        dueFault(SHOP, "c1;t1;t1", 5);
        dueFault(SHOP, "c1;p1;l1;t1;", 11);
    }

    void p04_aPartHasALetterOfItsOwn() {
        dueFault(SHOP, "c1;c2", 3);
        dueFault(SHOP, "c1;;p1", 3);
        dueFault(SHOP, "c1;2", 3);
        dueFault(SHOP, "c1;q", 3);
    }

    // ---- 4: fault of a customer

    void p04_aPriceIs1To99() {
        dueFine(CUSTOMER, "1:a", "01:a", "99:a");
        dueFault(CUSTOMER, "0:a", 0);
        dueFault(CUSTOMER, "00:a", 1);
        dueFault(CUSTOMER, " 0 :a", 1);
        dueFault(CUSTOMER, "0", 0);
        dueFault(CUSTOMER, ":a", 0);
        dueFault(CUSTOMER, "a:a", 0);
    }

    void p04_aPurseHas1To4Letters() {
        dueFine(CUSTOMER, "1:a", "1:ab", "1:abc", "1:abcd", "1:aaaa");
        dueFault(CUSTOMER, "1:", 2);
        dueFault(CUSTOMER, "1:;", 2);
        dueFault(CUSTOMER, "1a", 1);
    }

    void p04_theFifthLetterOfAPurseIsWrong() {
        dueFault(CUSTOMER, "1:abcda", 6);
        dueFault(CUSTOMER, "1:aaaaa", 6);
        dueFault(CUSTOMER, "1:aaaae", 6);
        dueFault(CUSTOMER, "1:a a a a a", 10);
        dueFault(CUSTOMER, "1:aaaaaa", 6);
    }

    void p04_lettersStandInAnyOrder() {
        dueFine(CUSTOMER, "1:dcba", "1:bdac", "1:caac");
    }

    void p04_withoutAShopLettersAreAToD() {
        dueFine(CUSTOMER, "1:d");
        dueFault(CUSTOMER, "1:e", 2);
        dueFault(CUSTOMER, "1:de", 3);
        dueFault(CUSTOMER, "1:`", 2);
    }

    void p04_withAShopALetterOfNoKindIsWrong() {
        String[] shops = {"c1", "c1,2", "c1,2,3", "c1,2,3,4"};
        for (int kinds = 1; kinds <= 4; kinds++) {
            TillPipe x = shop(shops[kinds - 1]);
            feed(x, "1:" + (char) ('a' + kinds - 1));
            due(x.fault(CUSTOMER), NONE);
            x.end(2);
            feed(x, "" + (char) ('a' + kinds));
            due(x.fault(CUSTOMER), 2);
            x.end(2);
            feed(x, "a" + (char) ('a' + kinds));
            due(x.fault(CUSTOMER), 3);
        }
    }

    // ---- 4: fault of a rule

    void p04_aRuleHasOneClauseAtLeast() {
        dueFault(RULE, ";", 0);
        dueFault(RULE, ";y:1", 0);
        dueFault(RULE, "y:1;;y:1", 4);
        dueFine(RULE, "y:1", "y:1;y:2", "y:1=1?1;y:2=2?2;y:3=3?3");
    }

    void p04_asManyClausesAsTheTapeHolds() {
        dueFine(RULE, "y:1;".repeat(39) + "y:1", "y:1;".repeat(39) + "y:1 ");
        dueFault(RULE, "y:1;".repeat(40), 160);
    }

    void p04_numbersInRulesHave1To4Digits() {
        dueFine(RULE, "y:0", "y:00", "y:000", "y:0000", "y:9999", "y:1=9999?9999");
    }

    void p04_aFifthDigitIsWrong() {
        dueFault(RULE, "y:12345", 6);
        dueFault(RULE, "y:00000", 6);
        dueFault(RULE, "y:v+10000", 8);
        dueFault(RULE, "y:123456", 6);
        dueFault(RULE, "y:1=1?99999", 10);
    }

    void p04_sixWithinOneAnotherAreFine() {
        dueFine(RULE, "y:[[[[[[1]]]]]]", "y:((((((1=1))))))?1", "y:!!!!!!1=1?1", "y:!(!(!(1=1)))?1",
            "y:!(!([[1]]=1))?[[[[[[1]]]]]]", "y:1=[[[[[[1]]]]]]?1", "y:(((([[1]]=1))))?1");
    }

    void p04_theSeventhWithinIsWrong() {
        dueFault(RULE, "y:[[[[[[[1]]]]]]]", 8);
        dueFault(RULE, "y:(((((((1=1)))))))?1", 8);
        dueFault(RULE, "y:!!!!!!!1=1?1", 8);
        dueFault(RULE, "y:!(!(!(!1=1)))?1", 8);
        dueFault(RULE, "y:!(!(!([1]=1)))?1", 8);
        dueFault(RULE, "y:((((((1=[1]))))))?1", 10);
        dueFault(RULE, "y:1=1?[[[[[[[", 12);
        dueFault(RULE, "y:!!!!!![1]=1?1", 8);
        dueFault(RULE, "y:((((([[", 8);
    }

    void p04_sevenBesideOneAnotherAreFine() {
        dueFine(RULE, "y:[1]+[1]+[1]+[1]+[1]+[1]+[1]", "y:(1=1)&(1=1)&(1=1)|(1=1)|(1=1)|(1=1)|(1=1)?1",
            "y:!1=1&!1=1&!1=1&!1=1|!1=1|!1=1|!1=1?1", "y:[[[1]]]+[[[1]]]+[[[1]]]", "y:![1]=[1]&!([1]=[1])?[1];y:[1]");
    }

    void p04_aQuestionMarkWantsACondition() {
        dueFault(RULE, "y:1?2", 3);
        dueFault(RULE, "y:?2", 2);
        dueFault(RULE, "y:[1=1]?2", 4);
    }

    void p04_behindAConditionComesAQuestionMark() {
        dueFault(RULE, "y:1=1;y:1", 5);
        dueFault(RULE, "y:(1=1);", 7);
        dueFault(RULE, "y:!1=1;", 6);
        dueFault(RULE, "y:1=1+1)", 7);
    }

    void p04_withBracketOrNotTheClauseHasACondition() {
        dueFault(RULE, "y:(1)", 4);
        dueFault(RULE, "y:(1+1)=2?1", 6);
        dueFault(RULE, "y:(1=1)+1", 7);
        dueFault(RULE, "y:(1=1)=1?1", 7);
        dueFault(RULE, "y:!1", 4);
        dueFault(RULE, "y:!1?2", 4);
        dueFault(RULE, "y:!1+1;", 6);
    }

    void p04_aTruthIsComparedOnce() {
        dueFault(RULE, "y:1=1=1?1", 5);
        dueFault(RULE, "y:1<=1?1", 4);
        dueFault(RULE, "y:1=1&1?1", 7);
        dueFault(RULE, "y:1=1|(1)?1", 8);
    }

    void p04_oneConditionAClause() {
        dueFault(RULE, "y:1=1?2=2?3", 7);
        dueFault(RULE, "y:1=1?(1=1)", 6);
        dueFault(RULE, "y:1=1?!1", 6);
        dueFault(RULE, "y:1=1?2?3", 7);
    }

    void p04_aSignWantsSomethingBehindIt() {
        dueFault(RULE, "y:1=1|?1", 6);
        dueFault(RULE, "y:1=1&?1", 6);
        dueFault(RULE, "y:(1=1|)?1", 7);
        dueFault(RULE, "y:(1=1&)?1", 7);
        dueFault(RULE, "y:1=?1", 4);
        dueFault(RULE, "y:1<&1=1?1", 4);
        dueFault(RULE, "y:(=1)?1", 3);
        dueFault(RULE, "y:1=1&=1?1", 6);
        dueFault(RULE, "y:1=1|<1?1", 6);
        dueFault(RULE, "y:!=1?1", 3);
        dueFault(RULE, "y:!?1", 3);
        dueFault(RULE, "y:!&1=1?1", 3);
        dueFault(RULE, "y:1+;y:1", 4);
        dueFault(RULE, "y:1*;y:1", 4);
        dueFault(RULE, "y:[1+]", 5);
        dueFault(RULE, "y:[1/]", 5);
        dueFault(RULE, "y:1=1?;y:1", 6);
        dueFault(RULE, "y:;y:1", 2);
    }

    void p04_aSumBeginsWithAnAtom() {
        for (String sign : new String[] {"-", "+", "*", "/", "=", ")", "]", "&", "|", ";", ":"}) {
            dueFault(RULE, "y:" + sign + "1", 2);
        }
    }

    void p04_bracketsAreClosedByTheirOwn() {
        dueFault(RULE, "y:[1)", 4);
        dueFault(RULE, "y:(1=1]", 6);
        dueFault(RULE, "y:[]", 3);
        dueFault(RULE, "y:()", 3);
    }

    void p04_roundOnesHoldConditionsSquareOnesSums() {
        dueFault(RULE, "y:1=(1)?1", 4);
        dueFault(RULE, "y:1+(1)", 4);
        dueFault(RULE, "y:[1&1]", 4);
        dueFault(RULE, "y:[!1=1]", 3);
        dueFault(RULE, "y:[(1=1)]", 3);
    }

    void p04_aRuleHasSixLetters() {
        dueFine(RULE, "y:v", "y:t", "y:n", "y:i", "y:s", "y:o");
        for (char c = 'a'; c <= 'z'; c++) {
            if ("vtniso".indexOf(c) < 0) {
                dueFault(RULE, "y:" + c, 2);
            }
        }
        dueFault(RULE, "y:vt", 3);
        dueFault(RULE, "y:2v", 3);
    }

    // ---- 5: text

    void p05_aShopAnswersHowManyKinds() {
        due(tell(new TillPipe(), "c7", SHOP), 1);
        due(tell(new TillPipe(), "c7,8", SHOP), 2);
        due(tell(new TillPipe(), "c7,8,9", SHOP), 3);
        due(tell(new TillPipe(), "c7,8,9,10", SHOP), 4);
    }

    void p05_withoutPartsAreOnePipeLength5AndATrayOf1() {
        TillPipe x = shop("c1");
        due(x.count(1), 1);
        due(x.count(2), 5);
        due(x.count(3), 1);
    }

    void p05_aShopKeepsNoPartsOfAnotherOne() {
        TillPipe x = shop("c1,2,3,4;p2;l2;t0");
        due(tell(x, "c5", SHOP), 1);
        due(x.count(0), 1);
        due(x.count(1), 1);
        due(x.count(2), 5);
        due(x.count(3), 1);
        due(x.value(0), 5);
        due(valueThrows(x, 1), true);
    }

    void p05_partsThatAreTold() {
        TillPipe x = shop("c1,2;p2;l1;t0");
        due(x.count(1), 2);
        due(x.count(2), 1);
        due(x.count(3), 0);
        TillPipe y = shop("c1;l3");
        due(y.count(1), 1);
        due(y.count(2), 3);
        due(y.count(3), 1);
    }

    void p05_theTapeIsEmptyThen() {
        TillPipe x = fed(new TillPipe(), "c1,2");
        due(x.text(SHOP), 2);
        due(x.count(6), 0);
        feed(x, "1:b");
        due(x.text(CUSTOMER), 0);
        due(x.count(6), 0);
        feed(x, "y:1");
        due(x.text(RULE), 0);
        due(x.count(6), 0);
        due(x.text(SHOP), NONE);
    }

    void p05_customersAreNumberedFrom0To3() {
        TillPipe x = shop("c1,2");
        for (int i = 0; i < 4; i++) {
            due(tell(x, (i + 1) + ":ab", CUSTOMER), i);
            due(x.count(4), i + 1);
        }
    }

    void p05_aFifthCustomerIsRefused() {
        leavesAll(NONE, this::full, x -> x.text(CUSTOMER));
    }

    void p05_rulesAreNumberedFrom0To3() {
        TillPipe x = new TillPipe();
        for (int i = 0; i < 4; i++) {
            due(tell(x, "y:" + i, RULE), i);
            due(x.count(5), i + 1);
        }
    }

    void p05_aFifthRuleIsRefused() {
        leavesAll(NONE, () -> fed(refilled(full()), "y:9"), x -> x.text(RULE));
    }

    private static TillPipe refilled(TillPipe x) {
        x.end(0);
        return x;
    }

    void p05_aCustomerWithoutAShopIsRefused() {
        leavesAll(NONE, this::bare, x -> x.text(CUSTOMER));
    }

    void p05_aRuleNeedsNoShop() {
        due(tell(new TillPipe(), "y:v", RULE), 0);
    }

    void p05_aTextWithAFaultIsRefused() {
        leavesAll(NONE, this::busy, x -> x.text(SHOP));
        leavesAll(NONE, this::busy, x -> x.text(RULE));
        leavesAll(NONE, () -> fed(refilled(busy()), "c2,2"), x -> x.text(SHOP));
        leavesAll(NONE, () -> fed(refilled(busy()), "1:d"), x -> x.text(CUSTOMER));
        leavesAll(NONE, () -> fed(refilled(busy()), "y:1=1"), x -> x.text(RULE));
        leavesAll(NONE, () -> refilled(busy()), x -> x.text(CUSTOMER));
    }

    void p05_noSuchSortIsRefused() {
        for (int sort : new int[] {-1, -2, 3, Integer.MIN_VALUE, Integer.MAX_VALUE}) {
            leavesAll(NONE, this::busy, x -> x.text(sort));
        }
    }

    void p05_withAnotherShopCustomersAreGone() {
        TillPipe x = busy();
        due(tell(x, "c1,2,5;p2", SHOP), 3);
        due(x.count(4), 0);
        due(x.served(0), NONE);
        due(x.customer(0, NONE), NONE);
        due(x.result(0, NONE), NONE);
        due(x.row(12), NONE);
        due(x.most(), NONE);
    }

    void p05_withAnotherShopNobodyWasServedYet() {
        TillPipe x = busy();
        due(tell(x, "c1,2,5", SHOP), 3);
        for (int i = 0; i < 3; i++) {
            due(tell(x, "1:a", CUSTOMER), i);
            due(x.served(i), 0);
        }
    }

    void p05_withAnotherShopTheTillIsEmpty() {
        TillPipe x = busy();
        due(tell(x, "c1,2,5;p2", SHOP), 3);
        due(x.till(), 0);
        due(x.count(7), 0);
        due(x.lift(0), NONE);
        due(x.lift(1), NONE);
        due(x.tray(0), 0);
    }

    void p05_withAnotherShopTheImageIsGone() {
        TillPipe x = busy();
        due(tell(x, "c1,2,5;p2", SHOP), 3);
        due(x.back(), NONE);
    }

    void p05_withAnotherShopRulesStay() {
        TillPipe x = busy();
        due(tell(x, "c7;p2", SHOP), 1);
        due(x.count(5), 2);
        due(tell(x, "7:a", CUSTOMER), 0);
        due(x.by(1, 0), 1);
        due(x.coin(1, 0), 0);
        due(tell(x, "y:0", RULE), 2);
    }

    void p05_aCustomerHasItsOwnPurseAlone() {
        TillPipe x = shop("c1,2", "5:bbaa");
        due(tell(x, "c1,2", SHOP), 2);
        due(tell(x, "1:b", CUSTOMER), 0);
        due(x.customer(0, NONE), 1);
        due(x.customer(0, 0), 0);
        due(x.customer(0, 1), 1);
    }

    void p05_aCustomerPaysWithItsOwnPurseAlone() {
        TillPipe x = shop("c1,2,5", "1:acbb", "1:cba");
        due(tell(x, "c1,2", SHOP), 2);
        due(tell(x, "2:b", CUSTOMER), 0);
        due(tell(x, "9:b", CUSTOMER), 1);
        due(x.result(0, NONE), 1);
        due(x.result(0, 0), number("b", "", ""));
        due(x.result(1, NONE), 0);
        due(x.gives(0, 0), 0);
        due(x.gives(0, 1), 1);
        due(x.gives(1, 1), NONE);
    }

    void p05_aRuleOfTheWholeTape() {
        TillPipe x = shop("c1;p2", "1:a");
        String text = "y:" + "1+".repeat(78) + " i";
        due(text.length(), 160);
        rules(x, text);
        due(x.by(0, 0), 1);
        due(x.coin(1, 0), 0);
    }

    // ---- 6: value

    void p06_eachKindHasItsValue() {
        TillPipe x = shop("c1,2,50,99");
        due(x.value(0), 1);
        due(x.value(1), 2);
        due(x.value(2), 50);
        due(x.value(3), 99);
    }

    void p06_noSuchKindThrows() {
        TillPipe x = shop("c1,2,5");
        for (int kind : new int[] {-1, -2, 3, 4, Integer.MIN_VALUE, Integer.MAX_VALUE}) {
            due(valueThrows(x, kind), true);
        }
        due(valueThrows(shop("c1"), 1), true);
        due(valueThrows(shop("c1,2,3,4"), 4), true);
    }

    void p06_withoutAShopThereIsNoKind() {
        due(valueThrows(new TillPipe(), 0), true);
        due(valueThrows(bare(), 0), true);
        due(valueThrows(bare(), -1), true);
    }

    void p06_whatThrowsChangesNothing() {
        leavesAll(1, this::busy, x -> bit(valueThrows(x, 3)));
        leavesAll(1, this::bare, x -> bit(valueThrows(x, 0)));
    }

    // ---- 7: customer

    void p07_kindNoneIsThePrice() {
        TillPipe x = shop("c1,2", "1:a", "99:b");
        due(x.customer(0, NONE), 1);
        due(x.customer(1, NONE), 99);
    }

    void p07_howManyOfAKindItCarries() {
        TillPipe x = shop("c1,2,5", "7:bcab", "9:aaaa", "5:c");
        due(x.customer(0, 0), 1);
        due(x.customer(0, 1), 2);
        due(x.customer(0, 2), 1);
        due(x.customer(1, 0), 4);
        due(x.customer(1, 1), 0);
        due(x.customer(2, 0), 0);
        due(x.customer(2, 2), 1);
    }

    void p07_noSuchCustomerIsRefused() {
        for (int customer : new int[] {-1, 3, 4, Integer.MIN_VALUE, Integer.MAX_VALUE}) {
            leavesAll(NONE, this::busy, x -> x.customer(customer, NONE));
            leavesAll(NONE, this::busy, x -> x.customer(customer, 0));
        }
        due(shop("c1").customer(0, NONE), NONE);
        due(full().customer(4, NONE), NONE);
    }

    void p07_noSuchKindIsRefused() {
        for (int kind : new int[] {-2, 3, 4, Integer.MIN_VALUE, Integer.MAX_VALUE}) {
            leavesAll(NONE, this::busy, x -> x.customer(0, kind));
        }
        due(full().customer(0, 4), NONE);
        due(shop("c1", "1:a").customer(0, 1), NONE);
    }

    void p07_itCarriesTheSameBehindItsServing() {
        TillPipe x = shop("c1", "1:a");
        due(x.serve(0, 0), 1);
        due(x.customer(0, 0), 1);
    }
}
