import java.util.NoSuchElementException;

/** Promises 1 to 40, one by one: ordinary calls, edges, wrong ones; the answers due were reckoned by hand. */
public final class PromisesTest {
    private static final int NONE = -1;
    private static final int HIDDEN = -2;
    private static int wrong = 0;
    private static int asked = 0;

    private PromisesTest() {
    }

    public static void main(String[] args) {
        newObject();
        feed();
        end();
        shopFaults();
        customerFaults();
        ruleFaults();
        text();
        valuesAndCustomers();
        layAndLift();
        tillNumbers();
        results();
        serve();
        rows();
        steps();
        fourCustomers();
        notTold();
        dawn();
        gives();
        by();
        rulesReckoned();
        runAndWorst();
        days();
        cover();
        change();
        helpsAndSpoils();
        wiseAndRich();
        chain();
        images();
        count();
        System.out.println(asked + " answers, " + wrong + " wrong");
        if (wrong > 0) {
            System.exit(1);
        }
    }

    private static void due(String call, long got, long want) {
        asked++;
        if (got != want) {
            wrong++;
            System.out.println(call + " answered " + got + ", due is " + want);
        }
    }

    private static void due(String call, boolean got, boolean want) {
        due(call, got ? 1 : 0, want ? 1 : 0);
    }

    private static int feedText(TillPipe x, String text) {
        int length = x.count(6);
        for (int at = 0; at < text.length(); at += 20) {
            int[] five = new int[5];
            for (int i = 0; i < 20 && at + i < text.length(); i++) {
                five[i / 4] |= text.charAt(at + i) << 24 - i % 4 * 8;
            }
            length = x.feed(five[0], five[1], five[2], five[3], five[4]);
        }
        return length;
    }

    private static int tell(TillPipe x, String text, int sort) {
        x.end(0);
        feedText(x, text);
        return x.text(sort);
    }

    private static TillPipe shop(String text, String... customers) {
        TillPipe x = new TillPipe();
        due("text of shop " + text, tell(x, text, 0) > 0, true);
        for (int i = 0; i < customers.length; i++) {
            due("text of customer " + customers[i], tell(x, customers[i], 1), i);
        }
        return x;
    }

    private static void lay(TillPipe x, int where, int... kinds) {
        for (int kind : kinds) {
            due("lay(" + kind + ", " + where + ")", x.lay(kind, where), true);
        }
    }

    private static void dueFault(TillPipe x, int sort, String text, int want) {
        x.end(0);
        feedText(x, text);
        due("fault(" + sort + ") of '" + text + "'", x.fault(sort), want);
    }

    private static boolean throwsAt(TillPipe x, int kind) {
        try {
            x.value(kind);
            return false;
        } catch (NoSuchElementException e) {
            return true;
        }
    }

    private static void newObject() {
        TillPipe x = new TillPipe();
        due("till()", x.till(), NONE);
        for (int what = 0; what < 8; what++) {
            due("count(" + what + ") of a new one", x.count(what), 0);
        }
        due("value(0) throws", throwsAt(x, 0), true);
        due("lay", x.lay(0, 0), false);
        due("lay on the tray", x.lay(0, 2), false);
        due("lift", x.lift(0), NONE);
        due("coin", x.coin(0, 0), NONE);
        due("tray", x.tray(0), NONE);
        due("customer", x.customer(0, NONE), NONE);
        due("result", x.result(0, NONE), NONE);
        due("serve", x.serve(0, 0), NONE);
        due("row", x.row(0), NONE);
        due("left", x.left(0, NONE), NONE);
        due("aside", x.aside(0), NONE);
        due("steps", x.steps(0), NONE);
        due("most", x.most(), NONE);
        due("dawn", x.dawn(1, 0), NONE);
        due("breaks", x.breaks(1), NONE);
        due("by", x.by(0, 0), NONE);
        due("gives", x.gives(0, 0), NONE);
        due("run", x.run(0, 0), NONE);
        due("worst", x.worst(0, 0), NONE);
        due("day", x.day(0, 1, 0), NONE);
        due("best", x.best(NONE, 1, 0), NONE);
        due("served", x.served(0), NONE);
        due("cover", x.cover(0), NONE);
        due("change", x.change(1, 0), HIDDEN);
        due("amounts", x.amounts(), NONE);
        due("helps", x.helps(0), NONE);
        due("spoils", x.spoils(0), NONE);
        due("wise", x.wise(0, 0), NONE);
        due("rich", x.rich(0, 0), NONE);
        due("chain", x.chain(), NONE);
        due("mean", x.mean(0, 1, 1, 0), NONE);
        due("image", x.image(), NONE);
        due("back", x.back(), NONE);
        // rules need no shop, but by them none is served without customers
        due("rule", tell(x, "y:1", 2), 0);
        due("day without customers", x.day(0, 1, 0), NONE);
        due("best without customers", x.best(NONE, 1, 0), NONE);
        due("best by a row without customers", x.best(0, 0, 0), NONE);
        due("worst without customers", x.worst(0, 0), NONE);
        due("run without customers", x.run(0, 0), NONE);
        due("mean without customers", x.mean(0, 1, 1, 0), NONE);
    }

    private static void feed() {
        TillPipe x = new TillPipe();
        due("feed with zeros between", x.feed(0x63003100, 0, 0x2C, 0x00000032, 0), 4);
        due("its text", x.text(0), 2);
        due("value", x.value(1), 2);
        for (int i = 1; i <= 7; i++) {
            due("feed " + i, x.feed(-1, -1, -1, -1, -1), 20 * i);
        }
        due("ten more", x.feed(0x20202020, 0x20202020, 0x20200000, 0, 0), 150);
        due("too many", x.feed(-1, -1, -1, 0, 0), NONE);
        due("refused, nothing changed", x.count(6), 150);
        due("eleven are too many", x.feed(-1, -1, 0x01010100, 0, 0), NONE);
        due("ten fit", x.feed(-1, -1, 0x01010000, 0, 0), 160);
        due("none more", x.feed(0, 0, 0, 0, 0), 160);
        due("one more", x.feed(0, 0, 0, 0, 1), NONE);
        due("bytes", x.count(6), 160);
    }

    private static void end() {
        TillPipe x = new TillPipe();
        feedText(x, "c1,2,5");
        due("end(-1)", x.end(-1), false);
        due("end(7)", x.end(7), false);
        due("end(6)", x.end(6), true);
        due("bytes", x.count(6), 6);
        due("end(4)", x.end(4), true);
        due("end(5)", x.end(5), false);
        due("text", x.text(0), 2);
        due("empty then", x.count(6), 0);
        due("end(0)", x.end(0), true);
        due("end(1)", x.end(1), false);
        due("the least int", x.end(Integer.MIN_VALUE), false);
    }

    private static void shopFaults() {
        TillPipe x = new TillPipe();
        String[] fine = {"c1", "c99", "c01", "c1,2", "c1,2,3,4", "c97,98,99", "c1;p1", "c1;p2", "c1;p02", "c1;l1",
            "c1;l5", "c1;t0", "c1;t1", "c1;t00", "c1;p2;l5;t1", "c1;p2;t0", "c1;l2;t0", " c 1 , 20 ; p 2 ; l 3 ; t 0 "};
        for (String text : fine) {
            dueFault(x, 0, text, NONE);
        }
        dueFault(x, 0, "", 0);
        dueFault(x, 0, "   ", 3);
        dueFault(x, 0, "C1", 0);
        dueFault(x, 0, "  x", 2);
        dueFault(x, 0, "c", 1);
        dueFault(x, 0, "c ", 2);
        dueFault(x, 0, "c,", 1);
        dueFault(x, 0, "c0", 1);
        dueFault(x, 0, "c00", 2);
        dueFault(x, 0, "c000", 3);
        dueFault(x, 0, "c0000", 3);
        dueFault(x, 0, "c00 0", 2);
        dueFault(x, 0, "c0;p1", 1);
        dueFault(x, 0, "c0 5", 1);
        dueFault(x, 0, "c100", 3);
        dueFault(x, 0, "c1 2", 3);
        dueFault(x, 0, "c5,5", 3);
        dueFault(x, 0, "c5,4", 3);
        dueFault(x, 0, "c5,51", NONE);
        dueFault(x, 0, "c12,12", 5);
        dueFault(x, 0, "c12,11;", 5);
        dueFault(x, 0, "c12,100", 6);
        dueFault(x, 0, "c12,10 0", 5);
        dueFault(x, 0, "c1,100", 5);
        dueFault(x, 0, "c1,", 3);
        dueFault(x, 0, "c1, ", 4);
        dueFault(x, 0, "c1,,2", 3);
        dueFault(x, 0, "c1,2,3,4,5", 8);
        dueFault(x, 0, "c1,2,3,4 ,", 9);
        dueFault(x, 0, "c1;", 3);
        dueFault(x, 0, "c1;p", 4);
        dueFault(x, 0, "c1;p0", 4);
        dueFault(x, 0, "c1;p3", 4);
        dueFault(x, 0, "c1;p12", 5);
        dueFault(x, 0, "c1;p002", 6);
        dueFault(x, 0, "c1;p100:", 6);
        dueFault(x, 0, "c1;p10:", 5);
        dueFault(x, 0, "c1;p011", 6);
        dueFault(x, 0, "c1;l0", 4);
        dueFault(x, 0, "c1;l6", 4);
        dueFault(x, 0, "c1;l600", 6);
        dueFault(x, 0, "c1;t2", 4);
        dueFault(x, 0, "c1;t 990", 7);
        dueFault(x, 0, "c1;t1;", 5);
        dueFault(x, 0, "c1;p1;p1", 6);
        dueFault(x, 0, "c1;l1;p1", 6);
        dueFault(x, 0, "c1;t1;l1", 5);
        dueFault(x, 0, "c1;;", 3);
        dueFault(x, 0, "c1;p1x", 5);
        dueFault(x, 0, "c1\t", 2);
        due("no such sort", x.fault(3), -2);
        due("no such sort", x.fault(-1), -2);
    }

    private static void customerFaults() {
        TillPipe x = new TillPipe();
        for (String text : new String[] {"1:a", "99:abcd", "5:dcba", "7:aaaa", " 12 : a b  c ", "01:a"}) {
            dueFault(x, 1, text, NONE);
        }
        dueFault(x, 1, "", 0);
        dueFault(x, 1, ":a", 0);
        dueFault(x, 1, "0:a", 0);
        dueFault(x, 1, "00:a", 1);
        dueFault(x, 1, "100:a", 2);
        dueFault(x, 1, "000:a", 2);
        dueFault(x, 1, "001:a", 2);
        dueFault(x, 1, "1", 1);
        dueFault(x, 1, "1a", 1);
        dueFault(x, 1, "1 1:a", 2);
        dueFault(x, 1, "1:", 2);
        dueFault(x, 1, "1: ", 3);
        dueFault(x, 1, "1:e", 2);
        dueFault(x, 1, "1:ae", 3);
        dueFault(x, 1, "1:A", 2);
        dueFault(x, 1, "1:aaaaa", 6);
        dueFault(x, 1, "1:aaaa;", 6);
        dueFault(x, 1, "1:a1", 3);
        due("a shop of two kinds", tell(x, "c1,2", 0), 2);
        dueFault(x, 1, "1:ab", NONE);
        dueFault(x, 1, "1:abc", 4);
        dueFault(x, 1, "1:c", 2);
    }

    private static void ruleFaults() {
        TillPipe x = new TillPipe();
        String[] fine = {"y:0", "y:9999", "y:v", "y:t+n-i*s/o", "y:v=1?2", "y:v<1&t>2|n=3?i", "y:!v=1?2", "y:(v=1)?2",
            "y:!(v=1|t=2)&n=3?[v+1]*2", "y:1;y:2", "y:v=1?2;y:t<3?4;y:5", "y:[[[[[[1]]]]]]", "y:!!!!!!1=1?1",
            "y:((((((1=1))))))?1", "y:!(!(!(1=1)))?[[[[[[1]]]]]]", "y:!(!(![1]=1))?1", "y:!1=1&[[[[[[1]]]]]]=1?[[[[[[2]]]]]]",
            " y : v = 1 ? [ 2 + 3 ] ; y : 4 ", "y:[v]=1?2", "y:[v]>[t]&(n=1)?2"};
        for (String text : fine) {
            dueFault(x, 2, text, NONE);
        }
        dueFault(x, 2, "", 0);
        dueFault(x, 2, "x", 0);
        dueFault(x, 2, "y", 1);
        dueFault(x, 2, "y1", 1);
        dueFault(x, 2, "y:", 2);
        dueFault(x, 2, "y:x", 2);
        dueFault(x, 2, "y:-1", 2);
        dueFault(x, 2, "y:12345", 6);
        dueFault(x, 2, "y:1 2", 4);
        dueFault(x, 2, "y:vv", 3);
        dueFault(x, 2, "y:1?2", 3);
        dueFault(x, 2, "y:1&", 3);
        dueFault(x, 2, "y:1+", 4);
        dueFault(x, 2, "y:1+*", 4);
        dueFault(x, 2, "y:1=1", 5);
        dueFault(x, 2, "y:1=1;", 5);
        dueFault(x, 2, "y:1=1?", 6);
        dueFault(x, 2, "y:1=1=1?", 5);
        dueFault(x, 2, "y:1==1", 4);
        dueFault(x, 2, "y:1=1?2?", 7);
        dueFault(x, 2, "y:1=1?2=2", 7);
        dueFault(x, 2, "y:(1)=1?2", 4);
        dueFault(x, 2, "y:(1+2)", 6);
        dueFault(x, 2, "y:(1=1]", 6);
        dueFault(x, 2, "y:(1=1)", 7);
        dueFault(x, 2, "y:(1=1)+1", 7);
        dueFault(x, 2, "y:!1", 4);
        dueFault(x, 2, "y:!1?", 4);
        dueFault(x, 2, "y:!1=1", 6);
        dueFault(x, 2, "y:[1", 4);
        dueFault(x, 2, "y:[1=1]", 4);
        dueFault(x, 2, "y:[(1=1)]", 3);
        dueFault(x, 2, "y:[1)", 4);
        dueFault(x, 2, "y:1=(", 4);
        dueFault(x, 2, "y:1=1?(1)", 6);
        dueFault(x, 2, "y:1=1&", 6);
        dueFault(x, 2, "y:1=1|?", 6);
        dueFault(x, 2, "y:1;", 4);
        dueFault(x, 2, "y:1;;", 4);
        dueFault(x, 2, "y:1;x", 4);
        dueFault(x, 2, "y:[[[[[[[1]]]]]]]", 8);
        dueFault(x, 2, "y:!!!!!!!1=1?1", 8);
        dueFault(x, 2, "y:(((((((1=1)))))))?1", 8);
        dueFault(x, 2, "y:!!!!!![1]=1?1", 8);
        dueFault(x, 2, "y:(!(!(!1=[1])))?1", 10);
        dueFault(x, 2, "y:1=1?[[[[[[[", 12);
        dueFault(x, 2, "y:!(!(!([1]=1)))?1", 8);
    }

    private static void text() {
        TillPipe x = new TillPipe();
        feedText(x, "1:a");
        due("a customer without a shop", x.text(1), NONE);
        due("nothing changed", x.count(6), 3);
        due("no such sort", x.text(3), NONE);
        due("no such sort", x.text(-1), NONE);
        due("a fault", x.text(0), NONE);
        due("nothing changed", x.count(6), 3);
        for (int i = 0; i < 4; i++) {
            due("rule " + i, tell(x, "y:" + i, 2), i);
        }
        due("a fifth rule", tell(x, "y:4", 2), NONE);
        due("nothing changed", x.count(6), 3);
        due("shop", tell(x, "c2,3;p2;l4;t0", 0), 2);
        due("empty then", x.count(6), 0);
        for (int i = 0; i < 4; i++) {
            due("customer " + i, tell(x, (i + 1) + ":ab", 1), i);
        }
        due("a fifth customer", tell(x, "1:a", 1), NONE);
        due("nothing changed", x.count(6), 3);
        lay(x, 0, 1);
        due("by", x.by(0, 1), 1);
        due("image", x.image(), 2);
        due("a shop with a fault", tell(x, "c2,1", 0), NONE);
        due("nothing changed", x.count(4) * 10 + x.count(7), 42);
        due("another shop", tell(x, "c1,2,5", 0), 3);
        due("its pipes", x.count(1), 1);
        due("its length", x.count(2), 5);
        due("its tray", x.count(3), 1);
        due("customers are gone", x.count(4), 0);
        due("rules stay", x.count(5), 4);
        due("the till is empty", x.till(), 0);
        due("the image is gone", x.back(), NONE);
        due("customer", tell(x, "1:a", 1), 0);
        due("nobody was served", x.served(0), 0);
        due("rules serve on", x.by(3, 0), 1);
    }

    private static void valuesAndCustomers() {
        TillPipe x = shop("c1,2,50", "7:bcab", "99:a");
        due("value(0)", x.value(0), 1);
        due("value(2)", x.value(2), 50);
        due("value(3) throws", throwsAt(x, 3), true);
        due("value(-1) throws", throwsAt(x, -1), true);
        due("price", x.customer(0, NONE), 7);
        due("price", x.customer(1, NONE), 99);
        due("a", x.customer(0, 0), 1);
        due("b", x.customer(0, 1), 2);
        due("c", x.customer(0, 2), 1);
        due("none of b", x.customer(1, 1), 0);
        due("no kind d", x.customer(0, 3), NONE);
        due("no kind -2", x.customer(0, -2), NONE);
        due("no such customer", x.customer(2, NONE), NONE);
        due("no such customer", x.customer(-1, 0), NONE);
    }

    private static void layAndLift() {
        TillPipe x = shop("c1,2;p2;l2");
        due("no kind", x.lay(2, 0), false);
        due("no kind", x.lay(-1, 0), false);
        due("no place", x.lay(0, 3), false);
        due("no place", x.lay(0, -1), false);
        due("nothing changed", x.count(7), 0);
        lay(x, 0, 0, 1);
        due("full", x.lay(0, 0), false);
        lay(x, 1, 1);
        lay(x, 2, 1);
        due("the tray is full", x.lay(0, 2), false);
        due("coins", x.count(7), 4);
        due("the lowest", x.coin(0, 0), 0);
        due("the next", x.coin(0, 1), 1);
        due("above the top", x.coin(0, 2), NONE);
        due("below the lowest", x.coin(0, -1), NONE);
        due("the other", x.coin(1, 0), 1);
        due("above its top", x.coin(1, 1), NONE);
        due("no pipe", x.coin(2, 0), NONE);
        due("no pipe", x.coin(-1, 0), NONE);
        due("tray a", x.tray(0), 0);
        due("tray b", x.tray(1), 1);
        due("tray c", x.tray(2), NONE);
        due("tray -1", x.tray(-1), NONE);
        due("lift", x.lift(0), 1);
        due("lift", x.lift(0), 0);
        due("empty", x.lift(0), NONE);
        due("no pipe", x.lift(2), NONE);
        due("no pipe", x.lift(-1), NONE);
        due("the other stays", x.lift(1), 1);
        TillPipe y = shop("c1;t0");
        due("no room on this tray", y.lay(0, 2), false);
        due("none on it", y.tray(0), 0);
        due("no second pipe", y.lay(0, 1), false);
        due("no second pipe", y.lift(1), NONE);
        lay(y, 0, 0, 0, 0, 0, 0);
        due("five at most", y.lay(0, 0), false);
    }

    private static void tillNumbers() {
        TillPipe x = shop("c1,2,5,9;p2");
        due("empty", x.till(), 0);
        lay(x, 0, 0, 3);
        due("pipe 0", x.till(), 9L * 3125 * 16);
        lay(x, 1, 2, 1, 0);
        due("both pipes", x.till(), (9L * 3125 + 86) * 16);
        lay(x, 2, 3);
        due("and the tray", x.till(), (9L * 3125 + 86) * 16 + 8);
        lay(x, 0, 3, 3, 3);
        lay(x, 1, 3, 3);
        due("full", x.till(), ((((1 * 5 + 4) * 5 + 4) * 5 + 4) * 5 + 4) * 50000L + (86 * 25 + 24) * 16L + 8);
    }

    private static void results() {
        TillPipe x = shop("c1,2,5", "4:c", "9:a", "5:c");
        due("too little", x.result(1, NONE), 0);
        due("no change in an empty till", x.result(0, NONE), 0);
        due("none to be had", x.result(0, 0), NONE);
        due("no change needed", x.result(2, 0), 150000);
        lay(x, 0, 0, 0);
        due("one given, or one laid on the tray and the next given", x.result(0, NONE), 2);
        due("the tray keeps one", x.result(0, 0), 150001);
        due("the pipe keeps one", x.result(0, 1), 400000);
        due("no third", x.result(0, 2), NONE);
        due("k below NONE", x.result(0, -2), NONE);
        due("no such customer", x.result(3, NONE), NONE);
        due("no such customer", x.result(-1, NONE), NONE);
        due("no more is taken when nothing is left", x.result(2, NONE), 1);
        due("the coin given goes on top", x.result(2, 0), (1 * 25 + 1 * 5 + 3) * 50000L);
        lay(x, 0, 0, 0, 0);
        due("no room for what was given", x.result(2, NONE), 0);

        TillPipe y = shop("c1,2,5;t0", "4:c");
        lay(y, 0, 0, 0);
        due("without a tray", y.result(0, NONE), 1);
        due("the pipe keeps one", y.result(0, 0), 400000);
        lay(y, 0, 1);
        due("b is too much and can't go aside", y.result(0, NONE), 0);

        TillPipe z = shop("c1,2,5", "4:c");
        lay(z, 0, 0, 1);
        due("b goes aside", z.result(0, 0), 150002);
        lay(z, 2, 2);
        due("the tray is full of what can't be given", z.result(0, NONE), 0);

        TillPipe t = shop("c1,2", "1:b");
        lay(t, 0, 1, 0, 1);
        lay(t, 2, 0);
        due("from the tray, or from the tray's new room", t.result(0, NONE), 1);
        due("from the tray", t.result(0, 0), (((2 * 5 + 1) * 5 + 2) * 5 + 2) * 50000L);

        greatestFirst();
    }

    private static void greatestFirst() {
        TillPipe x = shop("c1,2;p2;l2", "3:ab");
        due("two coins onto two pipes", x.result(0, NONE), 4);
        due("both onto pipe 1: b below a", x.result(0, 0), 11 * 16);
        due("b onto pipe 0", x.result(0, 2), 100000 + 16);
        due("a onto pipe 0", x.result(0, 1), 50000 + 32);
        due("both onto pipe 0", x.result(0, 3), 550000);
        TillPipe y = shop("c1;p2;l2", "2:aa");
        due("one kind one by one", y.result(0, NONE), 3);
        due("one each", y.result(0, 1), 50016);
        TillPipe z = shop("c1,2", "1:ab");
        lay(z, 0, 0);
        due("gives a, or b", z.result(0, NONE), 2);
        due("gives b", z.result(0, 0), 100000);
        due("gives a", z.result(0, 1), 300000);
        TillPipe w = shop("c1,2", "1:ab");
        lay(w, 0, 0, 0);
        due("gives a, b, or both", w.result(0, NONE), 4);
        due("both: b and then a", w.result(0, 2), 550000);
        due("b, and a aside", w.result(0, 0), 100001);
        due("b", w.result(0, 1), 350000);
        due("a", w.result(0, 3), 31 * 50000);
    }

    private static void serve() {
        TillPipe x = shop("c1,2,5", "4:c", "9:a");
        lay(x, 0, 0, 0);
        due("no third result", x.serve(0, 2), NONE);
        due("no result NONE", x.serve(0, NONE), NONE);
        due("no such customer", x.serve(2, 0), NONE);
        due("too little", x.serve(1, 0), NONE);
        due("nothing changed", x.till(), 300000);
        due("serve", x.serve(0, 0), 1);
        due("the till behind", x.till(), 150001);
        due("the tray", x.tray(0), 1);
        due("again, from the tray", x.serve(0, 0), 2);
        due("the till behind", x.till(), 18 * 50000);
        due("how often", x.served(0), 2);
        due("the other", x.served(1), 0);
        due("no such customer", x.served(2), NONE);
        due("no such customer", x.served(-1), NONE);
    }

    private static TillPipe three() {
        return shop("c1,2,5", "3:c", "2:b", "1:aa");
    }

    private static void rows() {
        TillPipe x = three();
        int[] orders = {12, 21, 102, 120, 201, 210};
        int[] able = {0, 0, 1, 1, 0, 1};
        long[] left = {NONE, NONE, 800000, 150001, NONE, 400000};
        for (int i = 0; i < orders.length; i++) {
            due("row(" + orders[i] + ")", x.row(orders[i]), able[i]);
            due("left(" + orders[i] + ")", x.left(orders[i], NONE), able[i]);
            due("left(" + orders[i] + ", 0)", x.left(orders[i], 0), left[i]);
            due("left(" + orders[i] + ", 1)", x.left(orders[i], 1), NONE);
            due("left(" + orders[i] + ", -2)", x.left(orders[i], -2), NONE);
        }
        for (int row : new int[] {-12, 0, 1, 11, 13, 112, 1012, 3210, 222, 213, Integer.MAX_VALUE, Integer.MIN_VALUE}) {
            due("row(" + row + ")", x.row(row), NONE);
            due("left(" + row + ")", x.left(row, NONE), NONE);
            due("steps(" + row + ")", x.steps(row), NONE);
            due("run(0, " + row + ")", x.run(0, row), NONE);
        }
        due("aside", x.aside(0), 1);
        due("its order", x.aside(1), 120);
        due("no such what", x.aside(2), NONE);
        due("no such what", x.aside(-1), NONE);
        due("most", x.most(), 2);
        due("breaks(1)", x.breaks(1), 0);
        due("breaks(2)", x.breaks(2), 1);
        due("breaks(3)", x.breaks(3), 12);
        due("breaks(0)", x.breaks(0), NONE);
        due("breaks(4)", x.breaks(4), NONE);
        due("nothing changed", x.till(), 0);
        lay(x, 0, 1);
        due("row from [b]", x.row(12), 1);
        due("aside from [b]", x.aside(0), 0);
        due("its order", x.aside(1), 12);
        due("most from [b]", x.most(), 3);
        due("breaks(1) from [b]", x.breaks(1), NONE);
        due("breaks(3) from [b]: none", x.breaks(3), NONE);
        TillPipe y = shop("c1,2,5", "9:a", "1:a");
        due("none does", y.aside(0), NONE);
        due("none does", y.aside(1), NONE);
        due("most", y.most(), 1);
        TillPipe two = shop("c1;p2;l2", "1:a", "1:a");
        due("tills by their numbers", two.left(1, NONE), 3);
        due("the least", two.left(1, 0), 6 * 16);
        due("the next", two.left(1, 1), 50016);
        due("the last", two.left(10, 2), 300000);
        mostChooses();
    }

    private static void mostChooses() {
        // Who can be served need not be: 0 takes the room that 1 and 2 want.
        TillPipe x = shop("c1,5;l2;t0", "2:aa", "5:b", "1:a");
        due("two of three: not the first", x.most(), 2);
        TillPipe y = shop("c1,2;l2;t0", "2:aa", "1:a", "1:b");
        lay(y, 0, 0);
        due("the first home, both others served", y.most(), 2);
        TillPipe again = shop("c1;l2", "1:a", "2:aa", "1:a");
        due("one till by two ways, one of them better", again.most(), 2);
        lay(again, 0, 0, 0);
        due("and then none", again.most(), 0);
        TillPipe none = shop("c1", "2:a");
        due("nobody", none.most(), 0);
    }

    private static void steps() {
        TillPipe x = three();
        int[][] want = {{12, 0}, {21, 1}, {102, 2}, {120, 1}, {201, 2}, {210, 3}};
        for (int[] one : want) {
            due("steps(" + one[0] + ")", x.steps(one[0]), one[1]);
        }
        due("a fourth", tell(x, "1:a", 1), 3);
        due("steps(123)", x.steps(123), 0);
        due("steps(3210)", x.steps(3210), 6);
        due("steps(2301)", x.steps(2301), 2);
        due("steps(1032)", x.steps(1032), 4);
        due("a row of three", x.steps(12), NONE);
        TillPipe one = shop("c1", "1:a");
        due("steps(0) of one", one.steps(0), 0);
        due("steps(1) of one", one.steps(1), NONE);
    }

    private static void fourCustomers() {
        // Each gives the coin that is the next one's change, from the last to the first.
        TillPipe x = shop("c1,2,4,8;t0", "4:d", "2:c", "1:b", "1:a");
        due("aside", x.aside(0), 6);
        due("its order", x.aside(1), 3210);
        due("row(3210)", x.row(3210), 1);
        due("left(3210)", x.left(3210, 0), 200000);
        due("row(3201)", x.row(3201), 0);
        due("row(321) is 0321", x.row(321), 0);
        due("breaks(4)", x.breaks(4), 123);
        due("breaks(5)", x.breaks(5), NONE);
        due("chain", x.chain(), 15);
        due("most", x.most(), 1);
        due("helps(2)", x.helps(2), 8);
        due("helps(0)", x.helps(0), 0);
        due("rule", tell(x, "y:0", 2), 0);
        due("worst", x.worst(0, 0), 1);
        due("its order", x.worst(0, 1), 123);
        due("run(0, 3210)", x.run(0, 3210), 4);
        TillPipe y = shop("c1;p2", "1:a", "1:a", "1:a", "1:a");
        due("rule", tell(y, "y:0", 2), 0);
        due("all are served always", y.worst(0, 0), 4);
        due("the first order", y.worst(0, 1), 123);
        due("breaks(4)", y.breaks(4), NONE);
        due("most", y.most(), 4);
        due("left", y.left(3210, NONE), 5);
    }

    private static void notTold() {
        TillPipe x = shop("c1,2;p2", "6:bbab", "3:bba");
        lay(x, 0, 0);
        lay(x, 1, 0);
        due("201 tills are too many", x.row(1), HIDDEN);
        due("left", x.left(1, NONE), HIDDEN);
        due("left", x.left(1, 0), HIDDEN);
        due("k below NONE ahead of all", x.left(1, -2), NONE);
        due("the other order", x.row(10), 1);
        due("its tills", x.left(10, NONE), 108);
        due("no such 108th", x.left(10, 108), NONE);
        due("aside looks at the first", x.aside(0), HIDDEN);
        due("aside", x.aside(1), HIDDEN);
        due("no such what", x.aside(2), NONE);
        due("most", x.most(), HIDDEN);
        due("breaks", x.breaks(2), HIDDEN);
        due("breaks(1)", x.breaks(1), NONE);
        due("chain", x.chain(), HIDDEN);
        due("steps are told", x.steps(1), 0);
        TillPipe y = shop("c1,2;p2", "3:bba", "6:bbab");
        lay(y, 0, 0);
        lay(y, 1, 0);
        due("the other way round aside needs no more", y.aside(0), 0);
        due("but chain does", y.chain(), HIDDEN);
        due("and breaks", y.breaks(2), HIDDEN);
        TillPipe z = shop("c2,4,7,8;p2", "23:dbcb", "2:aacb");
        lay(z, 1, 1, 0);
        due("200 are told", z.left(1, NONE), 200);
        due("row", z.row(1), 1);
        due("most counts the others, too", z.most(), HIDDEN);
    }

    private static void dawn() {
        TillPipe x = three();
        due("dawn(1, 0)", x.dawn(1, 0), 1);
        due("dawn(1, 1)", x.dawn(1, 1), 100000);
        due("dawn(2, 0)", x.dawn(2, 0), 1);
        due("dawn(2, 1)", x.dawn(2, 1), 100000);
        due("dawn(0, 0)", x.dawn(0, 0), NONE);
        due("dawn(3, 0)", x.dawn(3, 0), NONE);
        due("dawn(1, 2)", x.dawn(1, 2), NONE);
        due("dawn(1, -1)", x.dawn(1, -1), NONE);
        lay(x, 0, 2, 2, 2, 2);
        due("the till as it is does not matter", x.dawn(1, 1), 100000);
        TillPipe none = shop("c1,2,5", "2:b");
        due("nothing need be laid in", none.dawn(1, 0), 0);
        due("the empty till", none.dawn(1, 1), 0);
        due("not so many customers", none.dawn(2, 0), NONE);
        TillPipe deep = shop("c1,5", "2:b");
        due("three coins", deep.dawn(1, 0), 3);
        due("aaa", deep.dawn(1, 1), 31 * 50000);
        TillPipe deeper = shop("c1,5", "1:b");
        due("four are too many", deeper.dawn(1, 0), NONE);
        due("four are too many", deeper.dawn(1, 1), NONE);
        TillPipe last = shop("c1,2,5,9", "4:d");
        due("the last kind but one", last.dawn(1, 1), 150000);
        TillPipe least = shop("c1,2,3,9", "4:d");
        due("5 by two coins: bc ahead of cb", least.dawn(1, 1), 13 * 50000);
        TillPipe flat = shop("c1,5;l2", "2:b");
        due("three do not fit", flat.dawn(1, 0), NONE);
        TillPipe orders = shop("c1,2,5;t0", "4:c", "1:a");
        due("a first, then the change", orders.dawn(2, 1), 50000);
        TillPipe both = shop("c1,2,5", "4:c", "3:c");
        due("change of 1 and of 2", both.dawn(2, 0), 2);
        due("ab: what is not wanted goes aside", both.dawn(2, 1), 7 * 50000);
        TillPipe wide = shop("c1,2,3;p2", "9:bcca", "3:cab");
        due("not told", wide.dawn(2, 0), HIDDEN);
        due("not told", wide.dawn(2, 1), HIDDEN);
        due("no such what", wide.dawn(2, 2), NONE);
    }

    private static void dueGives(String shop, String customer, int... want) {
        TillPipe x = shop(shop, customer);
        for (int kind = 0; kind < want.length; kind++) {
            due("gives of " + customer + ", " + kind, x.gives(0, kind), want[kind]);
        }
    }

    private static void gives() {
        dueGives("c1,2,3,6", "3:abc", 0, 0, 1, 0);
        dueGives("c1,2,3,6", "4:bbca", 1, 0, 1, 0);
        dueGives("c1,2,3,6", "5:dbc", 0, 1, 1, 0);
        dueGives("c1,2,3,6", "6:dbcc", 0, 0, 0, 1);
        dueGives("c1,2,3,6", "7:cccd", 0, 0, 1, 1);
        dueGives("c1,4,6,9", "10:dabc", 1, 0, 0, 1);
        dueGives("c1,2", "9:bbbb", NONE, NONE);
        TillPipe x = three();
        due("no such customer", x.gives(3, 0), NONE);
        due("no such kind", x.gives(0, 3), NONE);
        due("no such kind", x.gives(0, -1), NONE);
    }

    private static void by() {
        TillPipe x = three();
        due("no such rule", x.by(0, 0), NONE);
        due("rule", tell(x, "y:0", 2), 0);
        due("no such customer", x.by(0, 3), NONE);
        due("no such rule", x.by(-1, 0), NONE);
        due("no change", x.by(0, 0), 0);
        due("by", x.by(0, 1), 1);
        due("[b]", x.till(), 100000);
        due("by", x.by(0, 2), 1);
        due("[ba]", x.till(), 550000);
        due("a is given, b too much for what is left", x.by(0, 0), 0);
        due("all as ahead", x.till(), 550000);
        due("served", x.served(0) * 100 + x.served(1) * 10 + x.served(2), 11);
        due("away with a", x.lift(0), 0);
        due("by", x.by(0, 0), 1);
        due("[c]", x.till(), 150000);
        due("served", x.served(0), 1);
        lay(x, 0, 0, 0, 0, 0);
        due("no room", x.by(0, 1), 0);
        due("all as ahead", x.count(7), 5);
        TillPipe poor = shop("c1", "2:a");
        due("rule", tell(poor, "y:0", 2), 0);
        due("too little", poor.by(0, 0), 0);
        changeByRules();
    }

    private static void changeByRules() {
        // Of equal coins pipe 0's goes ahead of pipe 1's, pipe 1's ahead of the tray's.
        TillPipe x = shop("c1,2,5;p2", "3:c");
        due("rule", tell(x, "y:i", 2), 0);
        lay(x, 0, 1);
        lay(x, 1, 1);
        lay(x, 2, 1);
        due("image", x.image(), 3);
        due("by", x.by(0, 0), 1);
        due("from pipe 0", x.till(), (2 * 5 + 3) * 16 + 2);
        due("by", x.by(0, 0), 1);
        due("then from the tray, c being too much", x.till(), ((2 * 5 + 3) * 5 + 3) * 16);
        due("back", x.back(), 3);
        due("away from pipe 0", x.lift(0), 1);
        due("by", x.by(0, 0), 1);
        due("from pipe 1", x.till(), 3 * 16 + 2);
        // The greatest that fits goes ahead wherever it lies, and need not lead to the end.
        TillPipe y = shop("c1,3,4,9;p2;t1", "3:d");
        due("rule", tell(y, "y:0-i", 2), 0);
        lay(y, 0, 1, 1);
        lay(y, 1, 2);
        due("4 and then nothing for 2", y.by(0, 0), 0);
        due("though it can be paid", y.result(0, NONE) > 0, true);
        lay(y, 2, 0);
        due("4, 1, and then nothing for 1", y.by(0, 0), 0);
        due("all as ahead", y.tray(0), 1);
    }

    /** By the rule a coin of kind comes onto which pipe of this shop, pipes as laid. */
    private static int chosen(String rule, String customer, int[] first, int[] second) {
        TillPipe x = shop("c1,2,5;p2", customer);
        due("rule " + rule, tell(x, rule, 2), 0);
        lay(x, 0, first);
        lay(x, 1, second);
        due("by " + rule, x.by(0, 0), 1);
        return x.coin(0, first.length) >= 0 ? 0 : x.coin(1, second.length) >= 0 ? 1 : NONE;
    }

    private static void dueHolds(String condition, boolean want) {
        String rule = "y:" + condition + "?i;y:0-i";
        due(rule, chosen(rule, "1:a", new int[0], new int[0]), want ? 1 : 0);
    }

    private static void rulesReckoned() {
        int[] none = {};
        due("v", chosen("y:v=5?i;y:0-i", "5:c", none, none), 1);
        due("v", chosen("y:v=5?i;y:0-i", "2:b", none, none), 0);
        due("t", chosen("y:t", "1:a", new int[] {2, 0}, new int[] {0, 1}), 1);
        due("t without", chosen("y:0-t", "1:a", new int[] {0}, none), 1);
        due("n", chosen("y:n", "1:a", new int[] {2}, new int[] {0, 0}), 1);
        due("i", chosen("y:i", "1:a", none, none), 1);
        due("s", chosen("y:s", "1:a", new int[] {2, 0}, new int[] {0, 0, 0}), 0);
        due("s", chosen("y:s", "1:a", new int[] {0, 0, 0}, new int[] {2, 0}), 1);
        due("o", chosen("y:o", "1:a", new int[] {2, 0}, none), 1);
        due("a tie", chosen("y:7", "1:a", none, none), 0);
        due("no clause holds: 0", chosen("y:i=0?0-5", "1:a", none, none), 1);
        due("no clause holds: 0", chosen("y:i=1?5;y:i=0?6", "1:a", none, none), 0);
        due("no room in the best", chosen("y:0-i", "1:a", new int[] {0, 0, 0, 0, 0}, none), 1);
        due("at most a million", chosen("y:1000*1000+i", "1:a", none, none), 0);
        due("at most a million", chosen("y:9999*9999-1000*1000+i", "1:a", none, none), 1);
        due("at least minus a million", chosen("y:[0-1000*1000-[1-i]]", "1:a", none, none), 0);
        dueHolds("1=1|1=1&1=2", true);
        dueHolds("1=2&1=1|1=1", true);
        dueHolds("(1=1|1=1)&1=2", false);
        dueHolds("!1=2&1=2", false);
        dueHolds("!(1=2&1=2)", true);
        dueHolds("!!1=1", true);
        dueHolds("!1=1", false);
        dueHolds("9-3-2=4", true);
        dueHolds("12/3*2=8", true);
        dueHolds("1+2*3=7", true);
        dueHolds("[1+2]*3=9", true);
        dueHolds("[0-7]/2=0-3", true);
        dueHolds("7/[0-2]=0-3", true);
        dueHolds("5/0=0", true);
        dueHolds("1<2", true);
        dueHolds("2<2", false);
        dueHolds("2>1", true);
        dueHolds("2>2", false);
        dueHolds("2 = 2", true);
        dueHolds("0009=9", true);
        TillPipe one = shop("c1,2,5", "1:a");
        due("rule", tell(one, "y:o=0&i=0?1;y:0", 2), 0);
        due("one pipe", one.by(0, 0), 1);
        eachCoinAnew();
    }

    private static void eachCoinAnew() {
        TillPipe x = shop("c1,2,5;p2", "8:abc");
        due("rule", tell(x, "y:0-n", 2), 0);
        due("by", x.by(0, 0), 1);
        due("c, b, a by turns", x.till(), (3 * 5 + 1) * 50000 + 2 * 16);
    }

    private static void runAndWorst() {
        TillPipe x = three();
        due("no rule", x.run(0, 12), NONE);
        due("no rule", x.worst(0, 0), NONE);
        due("no rules", x.best(12, 0, 0), NONE);
        due("rule", tell(x, "y:0", 2), 0);
        int[][] want = {{12, 2}, {21, 2}, {102, 3}, {120, 2}, {201, 2}, {210, 3}};
        for (int[] one : want) {
            due("run(0, " + one[0] + ")", x.run(0, one[0]), one[1]);
        }
        due("apart from the shop", x.till(), 0);
        due("apart from the shop", x.served(1), 0);
        due("worst", x.worst(0, 0), 2);
        due("the first such", x.worst(0, 1), 12);
        due("no such what", x.worst(0, 2), NONE);
        due("no such what", x.worst(0, -1), NONE);
        due("no such rule", x.worst(1, 0), NONE);
        lay(x, 0, 1);
        due("from [b]: 120 gets b, a on top, then c's change fails", x.worst(0, 0), 2);
        due("its order", x.worst(0, 1), 120);

        TillPipe y = shop("c1,2,5;p2;t0", "1:a", "4:c", "2:b");
        due("rule 0", tell(y, "y:0-i", 2), 0);
        due("rule 1", tell(y, "y:v=1?i;y:0-i", 2), 1);
        due("rule 2", tell(y, "y:v=1?i;y:0-i", 2), 2);
        due("all on one pipe: b covers a", y.run(0, 21), 2);
        due("apart: all are served", y.run(1, 21), 3);
        due("best by this row, the lowest of two", y.best(21, 0, 0), 1);
        due("alike by that row", y.best(12, 0, 0), 0);
        due("no such row", y.best(11, 0, 0), NONE);
        due("a row and a day", y.best(12, 5, 0), NONE);
        due("neither", y.best(NONE, 0, 0), NONE);
        due("n below 0", y.best(NONE, -1, 0), NONE);
        due("n above 60", y.best(NONE, 61, 0), NONE);
        due("row below NONE", y.best(-2, 1, 0), NONE);
        due("by a day", y.best(NONE, 60, 0) >= 0, true);
        due("by a day of one, all alike", y.best(NONE, 1, 1), 0);
    }

    private static void days() {
        // Only customer 0 can be served, ten times at most: a day tells how often it is drawn.
        TillPipe x = shop("c1;p2", "1:a", "9:a");
        due("rule", tell(x, "y:0", 2), 0);
        int[][] zeros = {{0, 1, 1, 2, 2, 2, 3, 3, 4, 4}, {1, 1, 2, 3, 4, 4, 5, 6, 6, 7}};
        for (int seed = 0; seed < 2; seed++) {
            for (int n = 1; n <= 10; n++) {
                due("day(0, " + n + ", " + seed + ")", x.day(0, n, seed), zeros[seed][n - 1]);
            }
        }
        due("a seed below 0", x.day(0, 8, -1), 3);
        due("the greatest seed", x.day(0, 8, Long.MAX_VALUE), 3);
        due("the least seed", x.day(0, 9, Long.MIN_VALUE), 4);
        due("the till is full at last", x.day(0, 60, 3), 10);
        due("apart from the shop", x.till(), 0);
        due("n 0", x.day(0, 0, 0), NONE);
        due("n 61", x.day(0, 61, 0), NONE);
        due("no such rule", x.day(1, 1, 0), NONE);
        due("mean of 6 seeds: 4 7 7 2 5 4", x.mean(0, 10, 6, 0), 29);
        due("steady", x.mean(0, 10, 6, 1), 5);
        due("one seed", x.mean(0, 10, 1, 0), 4);
        due("steady of one", x.mean(0, 10, 1, 1), 0);
        due("twenty seeds", x.mean(0, 60, 20, 0), 200);
        due("n 1, seeds 0 .. 5: 0 1 1 0 1 1", x.mean(0, 1, 6, 0), 4);
        due("k 0", x.mean(0, 1, 0, 0), NONE);
        due("k 21", x.mean(0, 1, 21, 0), NONE);
        due("n 0", x.mean(0, 0, 1, 0), NONE);
        due("n 61", x.mean(0, 61, 1, 0), NONE);
        due("no such what", x.mean(0, 1, 1, 2), NONE);
        due("no such what", x.mean(0, 1, 1, -1), NONE);
        due("no such rule", x.mean(1, 1, 1, 0), NONE);
        // Modulo three customers: with seed 1 these are 2 0 0 0 0 2 2 1.
        TillPipe y = shop("c1;p2", "1:a", "9:a", "8:a");
        due("rule", tell(y, "y:0", 2), 0);
        due("three told", y.day(0, 8, 1), 4);
    }

    private static void cover() {
        TillPipe x = shop("c1,2,5,9;p2");
        lay(x, 0, 0, 1, 0, 2);
        lay(x, 1, 1, 2, 2);
        due("the higher of two", x.cover(0), 1);
        due("of two pipes", x.cover(1), 2);
        due("tops", x.cover(2), 0);
        due("none there", x.cover(3), NONE);
        due("no such kind", x.cover(4), NONE);
        due("no such kind", x.cover(-1), NONE);
        lay(x, 1, 0);
        due("of two pipes, the second better", x.cover(0), 0);
        due("of two pipes, the first better", x.cover(1), 2);
        due("away", x.lift(1), 0);
        lay(x, 2, 1);
        due("on the tray", x.cover(1), 0);
        due("the tray covers nothing", x.cover(0), 1);
    }

    private static void change() {
        TillPipe x = shop("c1,2,5;p2");
        due("nothing there", x.amounts(), 0);
        due("nothing there", x.change(1, 0), 0);
        due("nothing there", x.change(1, 1), NONE);
        lay(x, 0, 1, 0, 2);
        lay(x, 1, 2, 1);
        due("5", x.change(5, 1), 1);
        due("2", x.change(2, 1), 1);
        due("1: c aside", x.change(1, 1), 2);
        due("6", x.change(6, 1), 2);
        due("3: b from pipe 1, c aside, a", x.change(3, 1), 3);
        due("4: b; c aside, and then only a and not b below it", x.change(4, 0), 0);
        due("7", x.change(7, 1), 2);
        due("all, 15", x.change(15, 1), 5);
        due("16", x.change(16, 0), 0);
        due("whether", x.change(7, 0), 1);
        due("out of bounds", x.change(0, 0), HIDDEN);
        due("out of bounds", x.change(100, 0), HIDDEN);
        due("no such what", x.change(1, 2), HIDDEN);
        due("no such what", x.change(1, -1), HIDDEN);
        due("99", x.change(99, 0), 0);
        due("nothing changed", x.count(7), 5);
        TillPipe y = shop("c1,2,5;t1");
        lay(y, 0, 0, 0, 0);
        lay(y, 2, 1);
        due("from the tray alone", y.change(2, 1), 1);
        due("3", y.change(3, 1), 2);
        due("5", y.change(5, 1), 4);
        due("amounts 1 .. 5", y.amounts(), 5);
        TillPipe z = shop("c1,2,5;t0");
        lay(z, 0, 0, 1, 2);
        due("from the top alone: 5, 7, 8", z.amounts(), 3);
        TillPipe many = shop("c1,12;p2", "1:b");
        lay(many, 0, 0, 0, 0, 0, 0);
        lay(many, 1, 0, 0, 0, 0, 0);
        lay(many, 2, 0);
        due("eleven moves", many.change(11, 1), 11);
        due("amounts", many.amounts(), 11);
        due("all go out, b comes in", many.result(0, NONE), 2);
        due("b onto pipe 1", many.result(0, 0), 32);
        due("rule", tell(many, "y:i", 2), 0);
        due("by", many.by(0, 0), 1);
        due("b onto pipe 1", many.till(), 32);
        TillPipe great = shop("c98,99;p2");
        lay(great, 0, 1, 0);
        due("98; 99 with 98 aside", great.amounts(), 2);
        due("99", great.change(99, 1), 2);
    }

    private static void helpsAndSpoils() {
        TillPipe x = three();
        due("b helps", x.helps(0), 2);
        due("it can be served", x.helps(1), NONE);
        due("no such customer", x.helps(3), NONE);
        due("no such customer", x.helps(-1), NONE);
        due("it can't be served", x.spoils(0), NONE);
        due("nobody spoils", x.spoils(1), 0);
        due("no such customer", x.spoils(3), NONE);
        due("no such customer", x.spoils(-1), NONE);
        TillPipe y = shop("c1,2,5;t0", "3:c", "2:b", "1:a", "9:a");
        due("b helps, a not", y.helps(0), 2);
        due("nobody helps who has too little", y.helps(3), 0);
        lay(y, 0, 1);
        due("it can be", y.helps(0), NONE);
        due("a spoils, b not, who can't be served not", y.spoils(0), 4);
        due("b is not spoilt", y.spoils(1), 0);
        TillPipe z = shop("c1,2,5;p2;t0", "3:c", "1:a");
        lay(z, 0, 1);
        due("a can go into the other pipe", z.spoils(0), 0);
        TillPipe full = shop("c1;l1", "1:a", "1:a");
        due("no room for two", full.spoils(0), 2);
        due("no room for two", full.spoils(1), 1);
    }

    private static void wiseAndRich() {
        TillPipe x = shop("c1,2,5;p2;t0", "3:c", "1:a");
        lay(x, 1, 1);
        due("the second result", x.wise(1, 0), 1);
        due("one other", x.wise(1, 1), 1);
        due("wise of 0", x.wise(0, 0), 0);
        due("one other", x.wise(0, 1), 1);
        due("no such what", x.wise(1, 2), NONE);
        due("no such what", x.wise(1, -1), NONE);
        due("no such customer", x.wise(2, 0), NONE);
        due("away", x.lift(1), 1);
        due("no result", x.wise(0, 0), NONE);
        due("no result", x.wise(0, 1), NONE);
        due("none can behind either: the lowest", x.wise(1, 0), 0);
        due("none", x.wise(1, 1), 0);
        due("rich: both have one coin, the lowest", x.rich(1, 0), 0);
        due("poor likewise", x.rich(1, 1), 0);
        TillPipe alone = shop("c1", "1:a");
        due("alone", alone.wise(0, 0), 0);
        due("alone", alone.wise(0, 1), 0);
        TillPipe y = shop("c1,2", "1:ab", "9:a");
        lay(y, 0, 0);
        due("rich", y.rich(0, 0), 1);
        due("poor", y.rich(0, 1), 0);
        due("no result", y.rich(1, 0), NONE);
        due("no result", y.rich(1, 1), NONE);
        due("no such what", y.rich(0, 2), NONE);
        due("no such what", y.rich(0, -1), NONE);
        due("no such customer", y.rich(2, 0), NONE);
        lay(y, 0, 0);
        // [b] and a aside: 2 coins; [ab]: 2; both, [ba]: 2; [aaa]: 3
        due("rich", y.rich(0, 0), 3);
        due("poor, the lowest; the tray counts", y.rich(0, 1), 0);
    }

    private static void chain() {
        TillPipe x = three();
        due("all three in some order", x.chain(), 7);
        TillPipe y = shop("c1;l1", "9:a", "1:a", "1:a");
        due("one of two, the least bits", y.chain(), 2);
        TillPipe none = shop("c1", "9:a");
        due("nobody", none.chain(), 0);
        TillPipe z = shop("c1,2,5;l2;t0", "2:aa", "1:a", "2:b");
        due("two of three", z.chain(), 6);
        TillPipe w = shop("c1,2,5;t0", "3:c", "1:a");
        lay(w, 0, 1);
        due("both, though in one order alone", w.chain(), 3);
    }

    private static void images() {
        TillPipe x = three();
        due("no image", x.back(), NONE);
        due("image of nothing", x.image(), 0);
        lay(x, 0, 1);
        due("serve", x.serve(0, 0), 1);
        lay(x, 2, 0);
        due("back", x.back(), 0);
        due("the till", x.till(), 0);
        due("nobody was served", x.served(0), 0);
        lay(x, 0, 1);
        lay(x, 2, 0);
        due("serve", x.serve(1, 0), 1);
        due("image instead", x.image(), 3);
        long kept = x.till();
        due("serve", x.serve(1, 0), 2);
        due("another customer", tell(x, "1:a", 1), 3);
        due("serve it", x.serve(3, 0), 1);
        due("back", x.back(), 3);
        due("the till", x.till(), kept);
        due("served once", x.served(1), 1);
        due("the new one stays, not served", x.served(3), 0);
        lay(x, 0, 1);
        due("back again", x.back(), 3);
        due("the till", x.till(), kept);
        due("another shop", tell(x, "c1,2,5", 0), 3);
        due("no image of this one", x.back(), NONE);
    }

    private static void count() {
        TillPipe x = shop("c1,2,5;p2;l4;t0", "1:a", "2:b");
        due("rule", tell(x, "y:1", 2), 0);
        lay(x, 0, 0);
        lay(x, 1, 1, 2);
        feedText(x, "c1,2");
        int[] want = {3, 2, 4, 0, 2, 1, 4, 3};
        for (int what = 0; what < want.length; what++) {
            due("count(" + what + ")", x.count(what), want[what]);
        }
        due("count(8)", x.count(8), HIDDEN);
        due("count(-1)", x.count(-1), HIDDEN);
        TillPipe y = shop("c1");
        lay(y, 2, 0);
        due("the tray's coin counts", y.count(7), 1);
        due("NONE", TillPipe.NONE, NONE);
        due("HIDDEN", TillPipe.HIDDEN, HIDDEN);
    }
}
