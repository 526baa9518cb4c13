/** Promise by promise: ordinary inputs, the edges that the document names, wrong inputs; answers worked out by hand. */
public final class PromiseTest {
    private static final int BEYOND = -1000001;
    private static final int FULL = -1000002;
    private static final int KIND = -1000003;
    private static final int NONE = -1000004;
    private static final int STATE = -1000005;
    private static final int MISSING = -1000006;
    private static final int SIZE = -1000007;
    private static final int MIN = Integer.MIN_VALUE;
    private static final int MAX = Integer.MAX_VALUE;

    private static final Check CHECK = new Check();
    private static WindowViews x;
    private static int promise;

    public static void main(String[] args) {
        newObject();
        things();
        kinds();
        windows();
        views();
        rents();
        months();
        breaches();
        bestOfAThing();
        bestOfAWindow();
        siteAndWorst();
        tradeAndSwap();
        spillAndSeed();
        tapes();
        texts();
        textFaults();
        spots();
        sheets();
        loadAndJudge();
        images();
        counts();
        rims();
        tenWindows();
        CHECK.end();
    }

    private static void fresh(int number) {
        x = new WindowViews();
        promise = number;
    }

    private static void due(int want, String name, int... args) {
        CHECK.due("promise " + promise + ": " + Calls.show(name, args), Calls.call(x, name, args), want);
    }

    /** The call is beyond with any of its numbers at the limits, one at a time, or at either end of int. */
    private static void beyond(String name, int[] good, int... limits) {
        for (int i = 0; i < good.length; i++) {
            for (int bad : new int[] {limits[2 * i] - 1, limits[2 * i + 1] + 1, MIN, MAX}) {
                int[] args = good.clone();
                args[i] = bad;
                due(BEYOND, name, args);
            }
        }
    }

    private static int[] ints(int... all) {
        return all;
    }

    /** Lots 11, 12, 14 with boxes 2, 5, 9 high of owners 1, 2, 3, and a window on 10, level 3, that looks at them for 0. */
    private static void street(int number) {
        fresh(number);
        x.build(0, 11, 1, 2);
        x.build(0, 12, 2, 5);
        x.build(0, 14, 3, 9);
        x.window(10, 3, 1, 0);
    }

    private static void newObject() {
        fresh(1);
        for (int what : ints(0, 1, 2, 3, 4, 5, 7)) {
            due(0, "count", what);
        }
        due(1, "count", 6);
        for (int owner = 0; owner < 4; owner++) {
            due(0, "purse", owner);
            due(owner + 1, "price", owner, owner + 1);
        }
        due(0, "wipe");
        due(0, "tear");
        due(0, "status", -1);
        for (int spot = 0; spot < 10; spot++) {
            due(MISSING, "as", spot, 0);
        }
        for (int s = 0; s < 4; s++) {
            due(MISSING, "write", s, 0, 0);
        }
        due(NONE, "undo");
        due(BEYOND, "view", 0);
    }

    private static void things() {
        fresh(2);
        beyond("build", ints(0, 0, 0, 0), 0, 6, 0, 24, 0, 3, 0, 9);
        due(1, "build", 6, 24, 3, 9);
        due(2, "build", 0, 0, 0, 0);
        due(STATE, "build", 1, 24, 0, 0);
        due(BEYOND, "build", 7, 24, 0, 0);
        due(0, "of", 0, 3);
        promise = 3;
        beyond("clear", ints(0), 0, 24);
        due(9, "clear", 24);
        due(NONE, "clear", 24);
        due(1, "count", 1);
        promise = 4;
        beyond("of", ints(0, 0), 0, 24, 0, 6);
        due(NONE, "of", 24, 6);
        due(BEYOND, "of", 24, 7);
        promise = 5;
        beyond("change", ints(0, 0, 0), 0, 24, 0, 3, 0, 6);
        int[] most = {6, 3, 9, 3};
        for (int what = 0; what < 4; what++) {
            due(0, "change", 0, what, most[what]);
            due(BEYOND, "change", 0, what, most[what] + 1);
            due(BEYOND, "change", 0, what, -1);
            due(most[what], "of", 0, what);
            due(BEYOND, "change", 1, what, most[what] + 1);
            due(NONE, "change", 1, what, 0);
        }
        promise = 6;
        beyond("price", ints(0, 0), 0, 3, 0, 99);
        due(4, "price", 3, 99);
        due(99, "price", 3, 0);
        due(0, "price", 3, 0);
        due(0, "of", 0, 5);
    }

    /** What each kind stands, costs and grows in a month, height 5, paint 1 (2 a square). */
    private static void kindsIn(int month, int[] stand, int[] cost, int[] grow) {
        for (int kind = 0; kind < 7; kind++) {
            fresh(4);
            for (int left = month; left > 0; left -= 60) {
                x.months(Math.min(60, left));
            }
            x.build(kind, kind, 0, 5);
            x.change(kind, 3, 1);
            due(stand[kind], "of", kind, 4);
            due(cost[kind], "of", kind, 5);
            due(grow[kind], "of", kind, 6);
            x.change(kind, 3, 0);
            due(kind == 2 || kind == 4 ? 0 : cost[kind] - (kind < 5 ? 1 : 2), "of", kind, 5);
            x.change(kind, 2, 9);
            due(kind == 4 && month % 2 == 1 ? 0 : 9, "of", kind, 4);
            x.months(1);
            due(9, "of", kind, 2);
        }
    }

    private static void kinds() {
        int[] plain = {2, 2, 2, 2, 2, 4, 4};
        int[] summer = {2, 3, 2, 3, 2, 4, 4};
        kindsIn(0, ints(5, 5, 5, 5, 5, 5, 8), plain, ints(0, 0, 0, 0, 0, 0, 0));
        kindsIn(1, ints(5, 5, 5, 5, 0, 5, 8), plain, ints(0, 0, 0, 1, 0, 0, 0));
        kindsIn(2, ints(5, 5, 5, 5, 5, 5, 8), plain, ints(0, 0, 0, 0, 0, 0, 0));
        kindsIn(3, ints(5, 7, 5, 7, 0, 5, 8), summer, ints(0, 1, 0, 1, 0, 0, 0));
        kindsIn(8, ints(5, 7, 5, 7, 5, 5, 8), summer, ints(0, 0, 0, 0, 0, 0, 0));
        kindsIn(9, ints(5, 5, 5, 5, 0, 5, 8), plain, ints(0, 0, 0, 1, 0, 0, 0));
        kindsIn(15, ints(5, 7, 5, 7, 0, 5, 8), summer, ints(0, 1, 0, 1, 0, 0, 0));
        kindsIn(998, ints(5, 5, 5, 5, 5, 5, 8), plain, ints(0, 0, 0, 0, 0, 0, 0));
    }

    private static void windows() {
        fresh(7);
        beyond("window", ints(0, 0, 0, 0), 0, 24, 0, 9, 0, 3, 0, 3);
        for (int i = 0; i < 10; i++) {
            due(i, "window", 24 - i, 9 - i, i % 4, 3 - i % 4);
        }
        due(FULL, "window", 0, 0, 0, 0);
        due(BEYOND, "window", 0, 0, 0, 4);
        promise = 8;
        beyond("windowOf", ints(0, 0), 0, 9, 0, 5);
        int[] second = {23, 8, 1, 2, -1, 0};
        for (int what = 0; what < 6; what++) {
            due(second[what], "windowOf", 1, what);
        }
        promise = 9;
        beyond("turn", ints(0, 1, 0), 0, 9, 1, 3, 0, 9);
        due(BEYOND, "turn", 1, 0, 0);
        due(BEYOND, "turn", 1, 4, 0);
        due(BEYOND, "turn", 1, 2, 4);
        due(BEYOND, "turn", 1, 3, 4);
        due(8, "turn", 1, 1, 9);
        due(1, "turn", 1, 2, 3);
        due(2, "turn", 1, 3, 0);
        due(9, "windowOf", 1, 1);
        due(3, "windowOf", 1, 2);
        due(0, "windowOf", 1, 3);

        street(10);
        beyond("contract", ints(0, 0, 0), 0, 0, -1, 3, 0, 36);
        due(0, "contract", 0, 3, 2);
        due(1, "contract", 0, 3, 3);
        due(3, "windowOf", 0, 4);
        due(3, "windowOf", 0, 5);
        due(1, "contract", 0, 0, 36);
        due(0, "contract", 0, 0, 0);
        due(1, "count", 4);
        due(0, "contract", 0, -1, 36);
        due(-1, "windowOf", 0, 4);
        due(0, "windowOf", 0, 5);
        due(0, "count", 4);

        street(11);
        beyond("purse", ints(0), 0, 3);
        x.months(2);
        due(-16, "purse", 0);
        due(4, "purse", 1);
        due(8, "purse", 2);
        due(4, "purse", 3);
    }

    private static void views() {
        street(12);
        beyond("sees", ints(0, 1), 0, 0, 1, 4);
        due(3, "sees", 0, 1);
        due(30, "sees", 0, 2);
        due(0, "sees", 0, 3);
        due(384, "sees", 0, 4);
        x.turn(0, 1, 0);
        due(16, "sees", 0, 2);
        due(0, "sees", 0, 4);
        x.turn(0, 1, 9);
        due(31, "sees", 0, 2);
        due(510, "sees", 0, 4);
        x.turn(0, 2, 3);
        due(0, "sees", 0, 1);
        // Square 2 lies just on the edge that square 2 of the nearer thing draws; it must be above it.
        fresh(12);
        x.build(0, 11, 0, 3);
        x.build(0, 12, 0, 9);
        x.window(10, 0, 1, 0);
        due(448, "sees", 0, 2);
        allWays();

        street(13);
        beyond("view", ints(0), 0, 0);
        due(8, "view", 0);
        street(14);
        beyond("share", ints(0, 0), 0, 0, 0, 3);
        due(0, "share", 0, 0);
        due(2, "share", 0, 1);
        due(4, "share", 0, 2);
        due(2, "share", 0, 3);
        street(15);
        beyond("lots", ints(0), 0, 0);
        due(1 << 11 | 1 << 12 | 1 << 14, "lots", 0);
        x.turn(0, 1, 0);
        due(1 << 11 | 1 << 12, "lots", 0);
        street(16);
        beyond("watched", ints(0), 0, 24);
        x.window(22, 0, 0, 0);
        due(3, "watched", 12);
        due(0, "watched", 13);
        due(1, "watched", 14);
        due(0, "watched", 10);
        x.turn(0, 1, 0);
        due(0, "watched", 14);
    }

    /** From the middle two lots each way, from a corner four; nothing behind the town's end, no row goes on in the next. */
    private static void allWays() {
        fresh(12);
        for (int lot = 0; lot < 25; lot++) {
            x.build(0, lot, 0, 1);
        }
        x.window(12, 9, 0, 0);
        int[] middle = {1 << 7 | 1 << 2, 1 << 13 | 1 << 14, 1 << 17 | 1 << 22, 1 << 11 | 1 << 10};
        x.window(24, 9, 0, 0);
        int[] corner = {1 << 19 | 1 << 14 | 1 << 9 | 1 << 4, 0, 0, 1 << 23 | 1 << 22 | 1 << 21 | 1 << 20};
        for (int way = 0; way < 4; way++) {
            x.turn(0, 2, way);
            due(middle[way], "lots", 0);
            x.turn(1, 2, way);
            due(corner[way], "lots", 1);
        }
    }

    private static void rents() {
        street(17);
        beyond("rent", ints(0), 0, 0);
        due(8, "rent", 0);
        x.change(12, 3, 2);
        due(16, "rent", 0);
        x.change(12, 0, 5);
        due(28, "rent", 0);
        x.turn(0, 3, 2);
        due(4, "rent", 0);

        street(18);
        beyond("gain", ints(0), 0, 3);
        x.window(22, 0, 0, 2);
        x.window(13, 0, 3, 3);
        due(-8, "gain", 0);
        due(2, "gain", 1);
        due(4 + 5, "gain", 2);
        due(2 - 5, "gain", 3);

        street(19);
        due(0, "broken");
        x.window(13, 0, 3, 3);
        x.window(13, 0, 1, 3);
        x.contract(0, 2, 5);
        x.contract(1, 2, 5);
        x.contract(2, 3, 10);
        due(5, "broken");
        x.contract(0, -1, 0);
        due(4, "broken");
    }

    private static void months() {
        street(20);
        beyond("months", ints(1), 1, 60);
        x.build(3, 13, 0, 0);
        due(8, "months", 1);
        due(1, "count", 0);
        due(0, "of", 13, 2);
        due(8, "months", 1);
        due(1, "of", 13, 2);
        // Rents come before growth: in month 3 the poplar on 13 is 3 high, but that is hidden behind lot 12.
        due(16, "months", 2);
        due(2, "of", 13, 2);
        due(-32, "purse", 0);
        fresh(20);
        x.build(1, 11, 1, 3);
        x.window(10, 0, 1, 0);
        due(3 + 3 + 3, "months", 3);
        due(5 * 2, "months", 1);
        due(6 * 2 * 4, "months", 4);
        due(5, "of", 11, 2);
        for (int i = 0; i < 16; i++) {
            x.months(60);
        }
        x.months(30);
        due(998, "count", 0);
        due(STATE, "months", 2);
        due(BEYOND, "months", 61);
        x.months(1);
        due(999, "count", 0);
        due(STATE, "months", 1);

        street(21);
        beyond("ahead", ints(0, 0), 0, 120, 0, 6);
        x.contract(0, 2, 5);
        due(0, "ahead", 0, 0);
        due(8 * 120, "ahead", 120, 0);
        due(1, "ahead", 7, 1);
        due(8, "ahead", 60, 2);
        due(-80, "ahead", 10, 3);
        due(20, "ahead", 10, 4);
        due(40, "ahead", 10, 5);
        due(20, "ahead", 10, 6);
        due(0, "count", 0);
        due(0, "purse", 0);
        x.change(12, 0, 1);
        due(0, "ahead", 3, 1);
        due(5, "of", 12, 2);
        for (int i = 0; i < 15; i++) {
            x.months(60);
        }
        due(0, "ahead", 0, 1);
        due(STATE, "ahead", 100, 0);
        due(BEYOND, "ahead", 100, 7);
        x.months(60);
        due(STATE, "ahead", 40, 0);
        x.months(39);
        due(0, "ahead", 0, 0);
        due(STATE, "ahead", 1, 0);
    }

    /** A poplar that grows before a box, whose owner was promised four squares. */
    private static void hedge(int number) {
        fresh(number);
        x.build(3, 11, 1, 0);
        x.build(0, 12, 2, 5);
        x.window(10, 0, 1, 0);
        x.contract(0, 2, 4);
    }

    private static void breaches() {
        hedge(22);
        beyond("breach", ints(0), 0, 0);
        due(2, "breach", 0);
        x.contract(0, 2, 2);
        due(3, "breach", 0);
        x.contract(0, 2, 6);
        due(0, "breach", 0);
        x.contract(0, 2, 0);
        due(NONE, "breach", 0);
        x.contract(0, -1, 0);
        due(STATE, "breach", 0);
        x.contract(0, 2, 4);
        x.change(11, 0, 0);
        due(NONE, "breach", 0);
        for (int i = 0; i < 14; i++) {
            x.months(60);
        }
        x.months(39);
        due(879, "count", 0);
        due(NONE, "breach", 0);
        due(NONE, "blame", 0);
        x.months(1);
        due(STATE, "breach", 0);
        due(STATE, "blame", 0);
        lateBreach();

        hedge(23);
        beyond("blame", ints(0), 0, 0);
        due(11, "blame", 0);
        x.contract(0, 3, 1);
        due(NONE, "blame", 0);
        x.contract(0, 2, 6);
        due(NONE, "blame", 0);
        x.contract(0, 2, 0);
        due(NONE, "blame", 0);
        x.contract(0, -1, 0);
        due(STATE, "blame", 0);
        // Two that hide: neither alone is to blame; with one of them low the other is.
        fresh(23);
        x.build(0, 11, 1, 5);
        x.build(0, 12, 1, 9);
        x.build(0, 13, 2, 5);
        x.window(10, 0, 1, 0);
        x.contract(0, 2, 1);
        due(NONE, "blame", 0);
        x.change(11, 2, 0);
        due(12, "blame", 0);
    }

    /**
     * A tree is 2 high in month 8, and stands 4 by summer; 5 high in month 20, and stands 7. From level 5 a box 3 lots
     * away, 9 high, is seen down to the least j with 2 j - 10 > 3 (2 h - 11): 0 with h 3, 1 with 4, 7 with 6, 10 with 7.
     */
    private static void lateBreach() {
        fresh(22);
        x.build(1, 11, 1, 0);
        x.build(0, 13, 2, 9);
        x.window(10, 5, 1, 0);
        x.contract(0, 2, 9);
        due(8, "breach", 0);
        due(11, "blame", 0);
        x.contract(0, 2, 1);
        due(20, "breach", 0);
    }


    private static void bestOfAThing() {
        fresh(24);
        beyond("paint", ints(0), 0, 24);
        due(NONE, "paint", 11);
        x.build(0, 11, 1, 3);
        due(0, "paint", 11);
        x.window(10, 0, 1, 0);
        due(3, "paint", 11);
        x.price(1, 50);
        due(1, "paint", 11);
        x.price(3, 50);
        due(1, "paint", 11);
        x.turn(0, 3, 1);
        due(0, "paint", 11);
        due(0, "of", 11, 3);

        fresh(25);
        beyond("height", ints(0), 0, 24);
        due(NONE, "height", 11);
        x.build(0, 11, 1, 3);
        due(0, "height", 11);
        x.window(10, 0, 1, 0);
        due(9, "height", 11);
        x.build(5, 12, 1, 9);
        x.change(12, 3, 3);
        due(0, "height", 11);
        x.change(11, 0, 6);
        x.change(12, 1, 2);
        due(6, "height", 11);
        due(3, "of", 11, 2);

        fresh(26);
        beyond("storey", ints(0, 0), 0, 24, 0, 3);
        due(NONE, "storey", 11, 0);
        x.build(0, 11, 1, 2);
        x.build(0, 12, 2, 9);
        x.window(10, 0, 1, 0);
        due(1, "storey", 11, 1);
        due(-2, "storey", 11, 2);
        due(1, "storey", 11, 0);
        due(0, "storey", 11, 3);
        due(STATE, "storey", 12, 0);
        due(BEYOND, "storey", 12, 4);
        due(2, "of", 11, 2);

        fresh(27);
        beyond("allowed", ints(0), 0, 24);
        due(NONE, "allowed", 11);
        x.build(0, 11, 1, 7);
        x.build(0, 12, 2, 5);
        x.window(10, 0, 1, 0);
        due(9, "allowed", 11);
        x.contract(0, 2, 3);
        due(1, "allowed", 11);
        due(9, "allowed", 12);
        x.contract(0, 2, 5);
        due(0, "allowed", 11);
        // Behind a box 7 high no height of lot 12 keeps it, nor breaks one more.
        due(9, "allowed", 12);
        due(7, "of", 11, 2);

        street(28);
        beyond("opens", ints(0), 0, 24);
        due(NONE, "opens", 13);
        due(0, "opens", 11);
        due(1, "opens", 12);
        due(0, "opens", 14);
        x.build(0, 24, 0, 9);
        due(0, "opens", 24);
        x.clear(24);
        x.window(10, 9, 1, 0);
        x.window(10, 3, 1, 0);
        due(5, "opens", 12);
        due(5, "of", 12, 2);
        due(3, "count", 1);
    }

    private static void bestOfAWindow() {
        fresh(29);
        due(BEYOND, "level", 0);
        x.build(0, 11, 1, 2);
        x.window(10, 7, 1, 0);
        beyond("level", ints(0), 0, 0);
        due(0, "level", 0);
        x.build(0, 12, 2, 5);
        due(4, "level", 0);
        due(7, "windowOf", 0, 1);

        fresh(30);
        due(BEYOND, "cheapest", 0);
        x.build(0, 7, 1, 2);
        x.build(0, 13, 1, 1);
        x.build(0, 17, 1, 1);
        x.build(0, 11, 1, 3);
        x.window(12, 0, 3, 0);
        beyond("cheapest", ints(0), 0, 0);
        due(1, "cheapest", 0);
        x.change(13, 3, 1);
        due(2, "cheapest", 0);
        x.change(11, 1, 0);
        due(3, "cheapest", 0);
        x.turn(0, 3, 1);
        due(0, "cheapest", 0);
        due(3, "windowOf", 0, 2);
    }

    private static void siteAndWorst() {
        fresh(31);
        beyond("site", ints(0, 0, 0), 0, 6, 0, 3, 0, 9);
        x.window(10, 0, 1, 0);
        due(11, "site", 0, 1, 3);
        due(0, "site", 0, 0, 3);
        due(0, "site", 2, 1, 9);
        x.build(0, 11, 2, 1);
        x.build(0, 0, 2, 1);
        // Behind lot 11 three squares are seen on 12 and on 13, two on 14.
        due(12, "site", 0, 1, 5);
        due(1, "site", 0, 0, 0);
        due(2, "count", 1);
        for (int lot = 0; lot < 25; lot++) {
            x.build(0, lot, 0, 0);
        }
        due(NONE, "site", 0, 1, 3);
        due(BEYOND, "site", 7, 1, 3);

        fresh(32);
        beyond("worst", ints(0), 0, 3);
        x.build(4, 11, 1, 3);
        x.change(11, 3, 1);
        x.window(10, 0, 1, 0);
        due(1, "worst", 1);
        due(0, "worst", 0);
        due(0, "worst", 2);
        x.months(1);
        due(0, "worst", 1);
        due(1, "worst", 0);
        // A tree pays more in summer, from month 3 on: two months behind now.
        x.change(11, 0, 1);
        due(2, "worst", 0);
        due(1, "count", 0);
        for (int i = 0; i < 16; i++) {
            x.months(60);
        }
        x.months(27);
        due(988, "count", 0);
        // The season's month is 4: summer ends five months on.
        due(5, "worst", 1);
        due(0, "worst", 0);
        x.months(1);
        due(STATE, "worst", 1);
        due(BEYOND, "worst", 4);
    }

    private static void tradeAndSwap() {
        fresh(33);
        beyond("trade", ints(0, 1), 0, 3, 0, 3);
        for (int owner = 0; owner < 4; owner++) {
            due(BEYOND, "trade", owner, owner);
        }
        due(NONE, "trade", 0, 1);
        x.build(0, 11, 0, 3);
        x.build(0, 12, 1, 9);
        x.build(0, 1, 1, 3);
        x.build(0, 2, 0, 9);
        x.window(10, 0, 1, 2);
        due(NONE, "trade", 0, 1);
        x.window(0, 0, 1, 2);
        due(1101, "trade", 0, 1);
        due(111, "trade", 1, 0);
        due(NONE, "trade", 0, 2);
        due(24, "count", 3);
        x.change(11, 2, 0);
        due(NONE, "trade", 0, 1);
        due(21, "count", 3);
        // Both must gain: what owner 1 has stands where no window looks.
        fresh(33);
        x.build(0, 11, 0, 3);
        x.build(5, 12, 0, 9);
        x.build(0, 24, 1, 3);
        x.window(10, 0, 1, 2);
        due(NONE, "trade", 0, 1);
        due(NONE, "trade", 1, 0);
        flatTrade();

        fresh(34);
        beyond("swap", ints(11, 12), 0, 24, 0, 24);
        due(NONE, "swap", 11, 12);
        x.build(0, 11, 0, 3);
        due(NONE, "swap", 11, 12);
        due(NONE, "swap", 12, 11);
        due(BEYOND, "swap", 12, 25);
        x.build(0, 12, 1, 3);
        due(0, "swap", 11, 12);
        x.window(10, 0, 1, 2);
        due(0, "swap", 11, 12);
        x.change(12, 2, 5);
        due(-1, "swap", 11, 12);
        due(-1, "swap", 12, 11);
        due(0, "swap", 11, 11);
        due(3, "of", 11, 2);
        x.change(11, 1, 3);
        x.turn(0, 3, 3);
        // Seen before: the tenant's own three; then five of owner 1's: one more, one less.
        due(0, "swap", 11, 12);
        x.change(12, 1, 3);
        due(0, "swap", 11, 12);
    }

    /** One without height stays as it is, but may be of the trade: lot 2 here; with a storey lower on 11 both gain. */
    private static void flatTrade() {
        fresh(33);
        x.build(0, 11, 0, 3);
        x.build(5, 16, 0, 9);
        x.change(16, 3, 3);
        x.build(0, 12, 1, 9);
        x.window(10, 0, 1, 2);
        x.window(1, 0, 2, 2);
        due(1112, "trade", 0, 1);
        x.build(0, 2, 1, 0);
        due(1102, "trade", 0, 1);
        due(211, "trade", 1, 0);
        due(0, "of", 2, 2);
        due(21, "count", 3);
    }

    private static void spillAndSeed() {
        fresh(35);
        beyond("spill", ints(1), 1, 12);
        due(STATE, "spill", 1);
        due(1, "count", 6);
        x.build(0, 11, 1, 3);
        x.change(11, 3, 1);
        x.build(0, 3, 2, 0);
        x.change(3, 3, 1);
        x.window(10, 0, 1, 0);
        // Draws 4310654, 9862832: thing 0, the one on lot 3, gets paint 0.
        due(6, "spill", 1);
        due(0, "of", 3, 3);
        due(1, "of", 11, 3);
        due(-1770082073, "count", 6);
        // 2589156, 12872603: thing 0 gets 3; 16337887, 9829236: thing 1 gets 0; 14279350, 10288046: thing 0 gets 2.
        due(3, "spill", 3);
        due(2, "of", 3, 3);
        due(0, "of", 11, 3);
        due(-1661227463, "count", 6);
        promise = 36;
        due(-1661227463, "seed", 1);
        due(1, "seed", MIN);
        due(MIN, "seed", BEYOND);
        due(BEYOND, "seed", 662824084);
        due(662824084, "count", 6);
        due(12, "spill", 1);
        due(3, "of", 11, 3);
    }

    private static void feed(String text) {
        for (int i = 0; i < text.length(); i += 4) {
            int n = Math.min(4, text.length() - i);
            int bytes = 0;
            for (int j = 0; j < n; j++) {
                bytes = bytes << 8 | text.charAt(i + j);
            }
            x.feed(bytes, n);
        }
    }

    private static void text(int want, String text) {
        feed(text);
        CHECK.due("promise " + promise + ": text() of '" + text + "'", x.text(), want);
        due(0, "count", 5);
    }

    private static void tapes() {
        fresh(37);
        beyond("feed", ints(0, 0), MIN + 1, MAX - 1, 1, 4);
        due(4, "feed", 0x62_6f_78_20, 4);
        due(6, "feed", 0x7f_01_61_74, 2);
        due(9, "feed", 0x7f_20_33_20, 3);
        due(10, "feed", 0x6f, 1);
        due(11, "feed", 0x66, 1);
        feed(" 1 high 2");
        due(20, "count", 5);
        due(1, "text");
        due(2, "of", 3, 2);
        for (int i = 1; i <= 29; i++) {
            due(4 * i, "feed", -1, 4);
        }
        due(117, "feed", 0, 1);
        due(FULL, "feed", 0, 4);
        due(BEYOND, "feed", 0, 5);
        due(120, "feed", 0, 3);
        due(FULL, "feed", 0, 1);
        promise = 38;
        due(120, "wipe");
        due(0, "wipe");
        due(0, "count", 5);
    }

    private static void texts() {
        fresh(39);
        text(5, "box at 0 of 1 high 2 paint 3;tree at 1 of 0 high 0 ; shed at 2 of 0 high 0; clear 1 ;clear 2");
        due(0, "of", 0, 0);
        due(1, "of", 0, 1);
        due(2, "of", 0, 2);
        due(3, "of", 0, 3);
        text(4, "tree at 1 of 3 high 9;shed at 2 of 0 high 0;poplar at 3 of 0 high 0;washing at 4 of 0 high 0");
        text(2, "house at 24 of 0 high 0 paint 0;tower at 005 of 00 high 0001 paint 2");
        int[] lots = {0, 1, 2, 3, 4, 24, 5};
        for (int kind = 0; kind < 7; kind++) {
            due(kind, "of", lots[kind], 0);
        }
        due(9, "of", 1, 2);
        due(3, "of", 1, 1);
        due(2, "of", 5, 3);
        text(3, "  window at 24 level 9 way 3 for 2;price 2 99;price3 0  ");
        int[] got = {24, 9, 3, 2, -1, 0};
        for (int what = 0; what < 6; what++) {
            due(got[what], "windowOf", 0, what);
        }
        due(99, "price", 2, 3);
        due(0, "price", 3, 4);
        text(2, "clear 24;box at24of3high4paint1");
        due(4, "of", 24, 2);
        due(1, "of", 24, 3);
        due(0, "status", -1);
        // With a fault nothing changes, not even by the items ahead of it.
        text(-16, "clear 24;clear 24");
        text(-13, "clear 24;box");
        due(4, "of", 24, 2);
    }

    private static void textFaults() {
        fresh(39);
        text(-1, "");
        text(-4, "   ");
        text(-1, "wall at 3");
        text(-1, ";");
        text(-1, "3");
        text(-1, "boxat 3 of 0 high 0");
        text(-1, "boxz at 3 of 0 high 0");
        text(-1, "abox at 3 of 0 high 0");
        text(-4, "box`at 3");
        text(-4, "box{at 3");
        text(-4, "box/3");
        text(-4, "box:3");
        text(-3, "  Box");
        text(-4, "box#at");
        text(-4, "box");
        text(-6, "box  ");
        text(-5, "box of 3");
        text(-7, "box at");
        text(-8, "box at 25 of 0 high 0");
        text(-8, "box at 1000 of 0 high 0");
        text(-8, "box at 4294967299 of 0 high 0");
        text(-8, "box at x of 0 high 0");
        text(-10, "box at 3 at 0 high 0");
        text(-13, "box at 3 of 4 high 0");
        text(-15, "box at 3 of 0 hig 0");
        text(-20, "box at 3 of 0 high 10");
        text(-22, "box at 3 of 0 high 1 1");
        text(-28, "box at 3 of 0 high 1 paint 4");
        text(-27, "box at 3 of 0 high 1 paint");
        text(-30, "box at 3 of 0 high 1 paint 1 paint 1");
        text(-22, "box at 3 of 0 high 1;");
        text(-22, "box at 3 of 0 high 1;;");
        text(-29, "box at 3 of 0 high 1;box at 3 of 0 high 1");
        text(-28, "box at 3 of 0 high 1;clear 4");
        text(-21, "box at 3 of 0 high 1\tpaint 1");
        text(-11, "window at 25 level 0");
        text(-13, "window at 2 way 0");
        text(-19, "window at 2 level 10");
        text(-25, "window at 2 level 0 way 4");
        text(-31, "window at 2 level 0 way 0 for 4");
        text(-7, "price 4 0");
        text(-9, "price 0 100");
        text(-8, "price 0");
        text(-12, "price 0 99 1");
        text(-7, "clear 3");
        text(-7, "clear ;");
        due(0, "count", 1);
        due(0, "count", 2);
        due(0, "status", -1);
        for (int i = 0; i < 9; i++) {
            x.window(0, 0, 0, 0);
        }
        text(-33, "window at 0 level 0 way 0 for 0;window at 0 level 0 way 0 for 0");
        due(9, "count", 2);
        text(1, "window at 0 level 0 way 0 for 0");
        text(-12, "price 0 99;window at 0 level 0 way 0 for 0");
        due(1, "price", 0, 1);
        x.build(0, 7, 0, 0);
        text(-8, "box at 7 of 0 high 0");
    }

    private static void spots() {
        fresh(40);
        beyond("hold", ints(0, 0), 0, 9, -1, 24);
        due(1, "hold", 9, 24);
        due(1, "hold", 0, 0);
        due(2, "count", 7);
        due(1, "hold", 9, -1);
        due(1, "hold", 9, -1);
        due(1, "count", 7);
        promise = 41;
        beyond("as", ints(0, 0), 0, 9, 0, 6);
        due(MISSING, "as", 0, 0);
        due(MISSING, "as", 9, 0);
        String[] isA = {"0", "01", "02", "013", "024", "05", "056"};
        for (int kind = 0; kind < 7; kind++) {
            x.build(kind, 10 + kind, 0, 0);
            x.hold(3, 10 + kind);
            for (int wanted = 0; wanted < 7; wanted++) {
                due(isA[kind].indexOf('0' + wanted) >= 0 ? 10 + kind : KIND, "as", 3, wanted);
            }
        }
        x.clear(16);
        due(MISSING, "as", 3, 0);
    }

    private static void sheets() {
        fresh(42);
        for (int s : ints(-1, 4, MIN, MAX)) {
            due(BEYOND, "sheet", s, 8, 1);
        }
        due(BEYOND, "sheet", 0, 8, 41);
        due(BEYOND, "sheet", 0, 8, MAX);
        for (int bits : ints(-8, 1, 7, 9, 15, 24, 31, 33, 64)) {
            due(BEYOND, "sheet", 0, bits, 1);
        }
        due(SIZE, "sheet", 0, 8, -1);
        due(SIZE, "sheet", 0, 0, MIN);
        due(BEYOND, "sheet", 4, 8, -1);
        due(BEYOND, "sheet", 0, 9, -1);
        due(BEYOND, "sheet", 0, 0, 41);
        due(40, "sheet", 3, 32, 40);
        due(0, "sheet", 3, 0, 40);
        due(MISSING, "write", 3, 0, 0);
        due(0, "sheet", 3, 16, 0);
        due(BEYOND, "write", 3, 0, 0);
        promise = 43;
        x.sheet(0, 8, 3);
        for (int bad : ints(-1, 4, MIN, MAX)) {
            due(BEYOND, "write", bad, 0, 1);
            due(BEYOND, "write", 0, bad, 1);
        }
        due(BEYOND, "write", 0, 3, 1);
        due(MISSING, "write", 1, 99, 0);
        due(BEYOND, "write", 4, 99, 0);
        due(1, "write", 0, 2, 256 + 7);
        x.build(0, 2, 0, 0);
        due(1, "load", 0, 0);
        due(7, "of", 2, 2);
        x.sheet(0, 16, 3);
        due(1, "load", 0, 0);
        due(0, "of", 2, 2);
        due(1, "write", 0, 2, 65536 + 256 + 7);
        due(0, "load", 0, 0);
        due(1, "write", 0, 2, 65536 + 5);
        due(1, "load", 0, 0);
        due(5, "of", 2, 2);
        x.sheet(0, 32, 3);
        due(1, "write", 0, 2, 65536 + 5);
        due(0, "load", 0, 0);
        copies();
    }

    private static void copies() {
        fresh(44);
        x.sheet(0, 8, 6);
        x.sheet(1, 8, 4);
        x.sheet(2, 16, 6);
        due(BEYOND, "copy", 4, 0, 3, 0, 1);
        due(BEYOND, "copy", 3, 0, -1, 0, 1);
        due(MISSING, "copy", 3, 0, 0, 0, 1);
        due(MISSING, "copy", 0, 0, 3, 0, -1);
        due(KIND, "copy", 0, 0, 2, 0, -1);
        beyond("copy", ints(0, 0, 1, 0, 4), 0, 3, 0, 2, 0, 3, 0, 0, 0, 4);
        due(BEYOND, "copy", 0, MAX, 1, 0, MAX);
        due(BEYOND, "copy", 0, 7, 1, 0, 0);
        due(0, "copy", 0, 6, 1, 4, 0);
        for (int i = 0; i < 6; i++) {
            x.write(0, i, i + 1);
            x.build(0, i, 0, 0);
        }
        due(4, "copy", 0, 2, 1, 0, 4);
        heights(1, 3, 4, 5, 6);
        due(4, "copy", 0, 0, 0, 1, 4);
        heights(0, 1, 1, 2, 3, 4, 6);
        due(5, "copy", 0, 1, 0, 0, 5);
        heights(0, 1, 2, 3, 4, 6, 6);
    }

    private static void heights(int sheet, int... want) {
        due(want.length, "load", sheet, 0);
        for (int lot = 0; lot < want.length; lot++) {
            due(want[lot], "of", lot, 2);
        }
    }

    private static void loadAndJudge() {
        fresh(45);
        due(BEYOND, "load", 4, 25);
        due(MISSING, "load", 0, 25);
        x.sheet(0, 32, 4);
        beyond("load", ints(0, 0), 0, 3, 0, 24);
        for (int i = 0; i < 4; i++) {
            x.write(0, i, 9 - i);
        }
        due(0, "load", 0, 0);
        x.build(0, 20, 0, 1);
        x.build(0, 22, 0, 1);
        x.build(0, 24, 0, 1);
        due(2, "load", 0, 20);
        due(9, "of", 20, 2);
        due(7, "of", 22, 2);
        due(1, "load", 0, 24);
        due(9, "of", 24, 2);
        x.write(0, 1, 10);
        x.write(0, 2, 3);
        due(1, "load", 0, 20);
        due(7, "of", 22, 2);
        x.write(0, 0, -1);
        due(0, "load", 0, 20);

        street(46);
        due(BEYOND, "judge", 4, 9);
        due(MISSING, "judge", 0, 9);
        x.sheet(0, 16, 4);
        beyond("judge", ints(0, 0), 0, 3, 0, 0);
        int[] right = {3, 30, 0, 384};
        for (int i = 0; i < 4; i++) {
            due(1 + i + (i == 2 ? 1 : 0), "judge", 0, 0);
            x.write(0, i, right[i]);
            i += i == 1 ? 1 : 0;
        }
        due(0, "judge", 0, 0);
        x.write(0, 0, 4);
        due(1, "judge", 0, 0);
        x.write(0, 0, 3);
        for (int n : ints(0, 1, 2, 3, 5)) {
            x.sheet(1, 16, n);
            x.copy(0, 0, 1, 0, Math.min(n, 4));
            due(1 + Math.min(n, 4), "judge", 1, 0);
        }
        x.sheet(2, 8, 4);
        for (int i = 0; i < 4; i++) {
            x.write(2, i, right[i]);
        }
        due(4, "judge", 2, 0);
    }

    private static void images() {
        street(47);
        x.hold(4, 11);
        x.contract(0, 1, 2);
        x.sheet(0, 8, 1);
        x.seed(77);
        x.months(5);
        due(1, "image");
        promise = 48;
        x.months(3);
        x.price(0, 9);
        x.change(11, 2, 9);
        x.clear(12);
        x.build(1, 0, 0, 0);
        x.window(0, 0, 0, 0);
        x.contract(0, -1, 0);
        x.turn(0, 1, 9);
        x.hold(4, -1);
        x.seed(5);
        x.feed(0, 3);
        x.sheet(0, 8, 0);
        x.sheet(1, 8, 1);
        due(NONE, "of", 12, 0);
        for (int i = 0; i < 2; i++) {
            due(5, "undo");
            due(5, "count", 0);
            due(1, "price", 0, 1);
            due(2, "of", 11, 2);
            due(2, "of", 12, 1);
            due(NONE, "of", 0, 0);
            due(1, "count", 2);
            due(1, "windowOf", 0, 4);
            due(2, "windowOf", 0, 5);
            due(3, "windowOf", 0, 1);
            due(11, "as", 4, 0);
            due(77, "count", 6);
            due(-40, "purse", 0);
            due(3, "count", 5);
            due(BEYOND, "write", 0, 0, 0);
            due(1, "write", 1, 0, 0);
            due(3 + 2 * i, "status", -1);
            x.months(1);
            x.clear(11);
        }
        x.image();
        x.months(1);
        due(6, "undo");
        due(NONE, "of", 11, 0);
        promise = 49;
        due(1, "tear");
        due(0, "tear");
        due(NONE, "undo");
        due(6, "count", 0);
        due(1, "image");
        due(6, "undo");
    }

    private static void counts() {
        street(50);
        beyond("count", ints(0), 0, 7);
        x.months(7);
        x.contract(0, 1, 1);
        x.feed(0, 2);
        x.hold(0, 0);
        x.hold(1, 0);
        x.hold(2, 24);
        x.build(6, 0, 0, 9);
        int[] want = {7, 4, 1, 25, 1, 2, 1, 3};
        for (int what = 0; what < 8; what++) {
            due(want[what], "count", what);
        }

        fresh(51);
        due(0, "status", -1);
        due(BEYOND, "status", 7);
        due(BEYOND, "status", -2);
        due(2, "status", -1);
        due(2, "status", 0);
        x.feed(0, 5);
        for (int i = 0; i < 31; i++) {
            x.feed(0, 4);
        }
        x.build(0, 0, 0, 0);
        x.build(0, 0, 0, 0);
        x.hold(0, 0);
        x.as(0, 1);
        x.as(0, 2);
        x.as(1, 0);
        x.clear(1);
        x.clear(1);
        x.clear(1);
        x.sheet(0, 8, -1);
        x.text();
        x.seed(-1000003);
        x.seed(0);
        int[] told = {3, 1, 2, 3, 1, 1, 1};
        for (int which = 0; which < 7; which++) {
            due(told[which], "status", which);
        }
        due(12, "status", -1);
        x.image();
        x.clear(1);
        x.undo();
        due(13, "status", -1);
    }

    /** Lot 0, and the lots at the rim, are seen as others are. */
    private static void rims() {
        fresh(12);
        x.build(0, 0, 1, 3);
        x.build(0, 20, 2, 2);
        x.window(5, 0, 0, 0);
        x.window(4, 0, 3, 0);
        x.window(20, 0, 2, 0);
        x.window(0, 0, 2, 0);
        due(7, "sees", 0, 1);
        due(7, "sees", 1, 4);
        due(0, "sees", 2, 1);
        due(3, "sees", 3, 4);
        due(3, "share", 0, 1);
        due(1, "lots", 1);
        due(3, "watched", 0);
        due(8, "watched", 20);
        due(3, "rent", 0);
        due(-8, "gain", 0);
        promise = 35;
        x.clear(20);
        x.change(0, 3, 1);
        x.seed(1);
        // One thing alone: the last of the 24 draws tells its paint.
        int z = 1;
        for (int i = 0; i < 24; i++) {
            z = z * 1103515245 + 12345;
        }
        int paint = (z >>> 8) % 4;
        due(2 * 3 * (paint + 1), "spill", 12);
        due(paint, "of", 0, 3);
        due(z, "count", 6);
        promise = 23;
        x.contract(0, 0, 1);
        due(0, "breach", 0);
        due(NONE, "blame", 0);
    }

    /** With as many windows as can be, each of them counts. */
    private static void tenWindows() {
        fresh(16);
        x.build(3, 11, 1, 2);
        for (int i = 0; i < 10; i++) {
            x.window(10, i, 1, i % 2);
            x.contract(i, 1, i < 5 ? 0 : 3);
        }
        due(1023, "watched", 11);
        due(10, "gain", 1);
        due(0b1111100000, "broken");
        due(10, "count", 4);
        due(20, "ahead", 0, 2);
        due(20, "ahead", 2, 0);
        due(0, "ahead", 2, 1);
        due(9, "allowed", 11);
        due(0, "opens", 11);
        due(0, "site", 0, 1, 0);
        due(0, "worst", 1);
        due(10, "months", 1);
        due(FULL, "window", 0, 0, 0, 0);
    }
}
