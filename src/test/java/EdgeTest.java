/** The boundary cases that promises 1 to 36 name, sentence by sentence. */
public final class EdgeTest {
    private static final int BEYOND = Bench.BEYOND;
    private static final int FULL = Bench.FULL;
    private static final int NONE = Bench.NONE;
    private static final int STATE = Bench.STATE;
    private static final int MISSING = Bench.MISSING;
    private static final int MIN = Bench.MIN;
    private static final int MAX = Bench.MAX;
    private static final int ALL_NINE = 0b111111111;

    private final Bench b = new Bench();

    private EdgeTest() {
    }

    public static void main(String[] args) {
        EdgeTest t = new EdgeTest();
        t.newObject();
        t.build();
        t.clear();
        t.of();
        t.change();
        t.price();
        t.window();
        t.windowOf();
        t.turn();
        t.contract();
        t.purse();
        t.sees();
        t.view();
        t.share();
        t.lots();
        t.watched();
        t.rent();
        t.gain();
        t.broken();
        t.months();
        t.ahead();
        t.breach();
        t.breachInTime();
        t.blame();
        t.paint();
        t.height();
        t.storey();
        t.allowed();
        t.opens();
        t.level();
        t.cheapest();
        t.site();
        t.worst();
        t.trade();
        t.swap();
        t.spill();
        t.seed();
        t.b.quotesAll(1, 36);
        t.b.check.end();
    }

    private void newObject() {
        b.says(1, "All as at first; no THINGS, WINDOWS; THE TAPE is empty, no image is kept.");
        b.due(0, "status", -1);
        int[] counts = {0, 0, 0, 0, 0, 0, 1, 0};
        for (int what = 0; what < 8; what++) {
            b.due(counts[what], "count", what);
        }
        for (int i = 0; i < 4; i++) {
            b.due(0, "purse", i);
            b.due(i + 1, "price", i, i + 1);
        }
        b.due(0, "broken");
        b.due(0, "tear");
        b.due(NONE, "undo");
        b.due(0, "wipe");
        b.due(BEYOND, "view", 0);
        b.due(-1, "text");
        // What one object is told another doesn't know.
        b.make("build", 0, 0, 0, 9);
        b.make("seed", 5);
        b.make("image");
        b.fresh();
        b.due(0, "count", 1);
        b.due(1, "count", 6);
        b.due(0, "tear");
    }

    private void build() {
        b.says(2, "A THING comes to a LOT: how many there are.");
        for (int lot = 24; lot >= 0; lot--) {
            b.due(25 - lot, "build", lot % 7, lot, lot % 4, lot % 10);
        }
        b.says(2, "STATE: one stands there.");
        b.due(1, "build", 0, 24, 0, 0);
        b.due(STATE, "build", 0, 24, 0, 0);
        b.due(STATE, "build", 6, 24, 3, 9);
        b.due(0, "of", 24, 0);
        b.due(0, "of", 24, 2);
        b.due(1, "count", 1);
        b.make("clear", 24);
        b.due(1, "build", 6, 24, 3, 9);
        b.due(2, "build", 6, 0, 3, 9);
    }

    private void clear() {
        b.says(3, "A THING is taken off a LOT: its HEIGHT.");
        for (int height = 0; height <= 9; height++) {
            b.make("build", 6, 24, 0, height);
            b.due(height, "clear", 24);
            b.due(0, "count", 1);
            b.due(0, "count", 3);
            b.due(NONE, "clear", 24);
        }
        // HEIGHT, not what it stands: as it has grown by now.
        b.make("build", 1, 0, 0, 5);
        b.goTo(4);
        b.due(8, "of", 0, 4);
        b.due(6, "clear", 0);
        b.due(NONE, "of", 0, 2);
    }

    private void of() {
        b.says(4, "what 0 KIND, 1 OWNER, 2 HEIGHT, 3 PAINT, 4 what it STANDS, 5 PRICE, 6 what it GROWS in this MONTH.");
        b.goTo(3);
        b.make("build", 3, 24, 2, 8);
        b.make("change", 24, 3, 3);
        int[] is = {3, 2, 8, 3, 9, 5, 1};
        for (int what = 0; what < 7; what++) {
            b.due(is[what], "of", 24, what);
        }
        b.due(BEYOND, "of", 24, 7);
        b.due(BEYOND, "of", 24, -1);
        b.due(NONE, "of", 23, 6);
        b.due(BEYOND, "of", 23, 7);
    }

    private void change() {
        b.says(5, "KIND (what 0), OWNER (1), HEIGHT (2), PAINT (3) of the THING on a LOT becomes v: what it was.");
        int[] last = {6, 3, 9, 3};
        b.make("build", 0, 0, 0, 0);
        b.make("build", 6, 24, 3, 9);
        b.make("change", 24, 3, 3);
        for (int what = 0; what < 4; what++) {
            for (int v = 1; v <= last[what]; v++) {
                b.due(v - 1, "change", 0, what, v);
                b.due(v, "of", 0, what);
            }
            b.due(last[what], "change", 0, what, last[what]);
            b.due(BEYOND, "change", 0, what, last[what] + 1);
            b.due(BEYOND, "change", 0, what, -1);
            b.due(last[what], "change", 0, what, 0);
            b.due(0, "of", 0, what);
            b.due(last[what], "of", 24, what);
        }
        b.says(5, "BEYOND: lot, what, v. NONE.");
        b.due(NONE, "change", 0, 0, 6);
        b.due(BEYOND, "change", 0, 0, 7);
        b.due(BEYOND, "change", 0, 4, 0);
        b.due(BEYOND, "change", 25, 0, 0);
        b.due(NONE, "change", 24, 2, 9);
        b.due(BEYOND, "change", 24, 2, 10);
    }

    private void price() {
        b.says(6, "PRICE OF PAINT becomes v: what it was.");
        for (int paint = 0; paint < 4; paint++) {
            b.due(paint + 1, "price", paint, 99);
            b.due(99, "price", paint, 0);
            b.due(0, "price", paint, 1);
            b.due(BEYOND, "price", paint, 100);
            b.due(BEYOND, "price", paint, -1);
            b.due(1, "price", paint, 1);
        }
        b.due(BEYOND, "price", 4, 0);
        b.due(BEYOND, "price", -1, 0);
    }

    private void window() {
        b.says(7, "A new WINDOW: its number.");
        for (int w = 0; w < 10; w++) {
            b.due(w, "window", 24, 9, 3, 3);
        }
        b.due(FULL, "window", 24, 9, 3, 3);
        b.due(BEYOND, "window", 25, 9, 3, 3);
        b.due(BEYOND, "window", 24, 10, 3, 3);
        b.due(BEYOND, "window", 24, 9, 4, 3);
        b.due(BEYOND, "window", 24, 9, 3, 4);
        b.due(10, "count", 2);
        // Windows go only with undo(); the next one has that number then, and no contract.
        b.fresh();
        b.make("window", 0, 0, 0, 0);
        b.make("image");
        b.make("window", 1, 1, 1, 1);
        b.make("contract", 1, 3, 36);
        b.make("undo");
        b.due(BEYOND, "view", 1);
        b.due(1, "window", 2, 2, 2, 2);
        int[] is = {2, 2, 2, 2, -1, 0};
        for (int what = 0; what < 6; what++) {
            b.due(is[what], "windowOf", 1, what);
        }
        b.due(0, "broken");
    }

    private void windowOf() {
        b.says(8, "what 0 LOT, 1 LEVEL, 2 WAY, 3 TENANT, 4 OWNER of its CONTRACT (-1: none), 5 LEAST.");
        b.due(BEYOND, "windowOf", 0, 0);
        b.make("window", 24, 9, 3, 2);
        int[] is = {24, 9, 3, 2, -1, 0};
        for (int what = 0; what < 6; what++) {
            b.due(is[what], "windowOf", 0, what);
        }
        b.due(BEYOND, "windowOf", 0, 6);
        b.due(BEYOND, "windowOf", 0, -1);
        b.due(BEYOND, "windowOf", 1, 0);
        b.make("contract", 0, 0, 36);
        b.due(0, "windowOf", 0, 4);
        b.due(36, "windowOf", 0, 5);
    }

    private void turn() {
        b.says(9, "LEVEL (what 1), WAY (2), TENANT (3) of a WINDOW becomes v: what it was.");
        int[] last = {0, 9, 3, 3};
        b.make("window", 12, 0, 0, 0);
        b.make("window", 12, 0, 0, 0);
        for (int what = 1; what <= 3; what++) {
            for (int v = 1; v <= last[what]; v++) {
                b.due(v - 1, "turn", 1, what, v);
                b.due(v, "windowOf", 1, what);
            }
            b.due(BEYOND, "turn", 1, what, last[what] + 1);
            b.due(BEYOND, "turn", 1, what, -1);
            b.due(last[what], "turn", 1, what, 0);
            b.due(0, "windowOf", 0, what);
        }
        b.due(BEYOND, "turn", 1, 0, 0);
        b.due(BEYOND, "turn", 1, 4, 0);
        b.due(BEYOND, "turn", 1, 5, 0);
        b.due(BEYOND, "turn", 2, 1, 0);
    }

    private void contract() {
        b.says(10, "A CONTRACT of a WINDOW (owner -1: none; LEAST is 0 then): 1 if it is BROKEN now, else 0.");
        b.make("build", 0, 11, 3, 9);
        b.make("window", 10, 0, 1, 0);
        for (int owner = 0; owner < 4; owner++) {
            b.due(0, "contract", 0, owner, 0);
            b.due(owner == 3 ? 0 : 1, "contract", 0, owner, 9);
            b.due(1, "contract", 0, owner, 10);
            b.due(1, "contract", 0, owner, 36);
            b.due(owner, "windowOf", 0, 4);
            b.due(36, "windowOf", 0, 5);
            b.due(1, "count", 4);
        }
        b.due(0, "contract", 0, -1, 36);
        b.due(-1, "windowOf", 0, 4);
        b.due(0, "windowOf", 0, 5);
        b.due(0, "count", 4);
        b.due(0, "broken");
        b.due(0, "contract", 0, -1, 0);
    }

    private void purse() {
        b.says(11, "PURSE of an OWNER.");
        b.make("build", 0, 11, 3, 1);
        b.make("window", 10, 0, 1, 0);
        b.make("months", 1);
        b.due(-1, "purse", 0);
        b.due(0, "purse", 1);
        b.due(0, "purse", 2);
        b.due(1, "purse", 3);
        b.due(BEYOND, "purse", 4);
        b.due(BEYOND, "purse", -1);
    }

    private void sees() {
        b.says(12, "as a set (of levels; 0 if there is none)");
        b.make("build", 0, 11, 0, 9);
        b.make("build", 0, 13, 0, 9);
        b.make("window", 10, 0, 1, 0);
        b.make("window", 14, 0, 3, 0);
        b.make("window", 14, 0, 1, 0);
        int[][] due = {{ALL_NINE, 0, 0, 0}, {ALL_NINE, 0, 0, 0}, {0, 0, 0, 0}};
        for (int w = 0; w < 3; w++) {
            for (int k = 1; k <= 4; k++) {
                b.due(due[w][k - 1], "sees", w, k);
            }
            b.due(BEYOND, "sees", w, 0);
            b.due(BEYOND, "sees", w, 5);
        }
        b.make("change", 11, 2, 0);
        b.due(0, "sees", 0, 1);
        b.due(ALL_NINE, "sees", 0, 3);
        b.make("change", 11, 2, 1);
        b.due(1, "sees", 0, 1);
    }

    /**
     * From level 9, boxes 6, 7, 8, 9 high. Of the second: 2 j - 18 > -7 * 2, j from 3 on. Of the third, by the second:
     * (2 j - 18) 2 > -5 * 3, from 6 on. Of the fourth, by the third: (2 j - 18) 3 > -3 * 4, from 8 on.
     */
    private void view() {
        b.says(13, "How many SQUARES are in VIEW.");
        b.make("window", 10, 9, 1, 0);
        b.due(0, "view", 0);
        for (int lot = 11; lot < 15; lot++) {
            b.make("build", 0, lot, 0, 0);
        }
        b.due(0, "view", 0);
        b.make("change", 11, 2, 1);
        b.due(1, "view", 0);
        b.make("change", 11, 2, 6);
        b.make("change", 12, 2, 7);
        b.make("change", 13, 2, 8);
        b.make("change", 14, 2, 9);
        b.due(0b111111, "sees", 0, 1);
        b.due(0b1111000, "sees", 0, 2);
        b.due(0b11000000, "sees", 0, 3);
        b.due(0b100000000, "sees", 0, 4);
        b.due(13, "view", 0);
    }

    private void share() {
        b.says(14, "How many of them are an OWNER's.");
        b.make("window", 10, 9, 1, 0);
        for (int owner = 0; owner < 4; owner++) {
            b.due(0, "share", 0, owner);
            b.make("build", 0, 11 + owner, owner, 1);
        }
        for (int owner = 0; owner < 4; owner++) {
            b.due(1, "share", 0, owner);
        }
        b.make("change", 14, 1, 0);
        b.due(2, "share", 0, 0);
        b.due(0, "share", 0, 3);
        b.make("build", 0, 0, 3, 7);
        b.make("turn", 0, 2, 0);
        b.due(0, "share", 0, 0);
        b.due(7, "share", 0, 3);
        b.due(0, "contract", 0, 3, 7);
        b.due(1, "contract", 0, 3, 8);
        b.due(BEYOND, "share", 0, 4);
        b.due(BEYOND, "share", 1, 0);
    }

    private void lots() {
        b.says(15, "LOTS of which a WINDOW SEES any SQUARE, as a set.");
        b.make("window", 20, 0, 1, 0);
        b.due(0, "lots", 0);
        b.make("build", 0, 24, 0, 1);
        b.due(1 << 24, "lots", 0);
        b.make("change", 24, 2, 0);
        b.due(0, "lots", 0);
        // Behind a box 1 high squares 0 to 2 are hidden: 3 high is hidden whole, 4 high is seen with one square.
        b.make("build", 0, 21, 0, 1);
        b.make("change", 24, 2, 3);
        b.due(1 << 21, "lots", 0);
        b.make("change", 24, 2, 4);
        b.due(1 << 21 | 1 << 24, "lots", 0);
    }

    private void watched() {
        b.says(16, "WINDOWS that SEE any SQUARE of a LOT, as a set.");
        b.due(0, "watched", 0);
        for (int w = 0; w < 10; w++) {
            b.make("window", 20, w, 0, 0);
        }
        b.due(0, "watched", 0);
        b.make("build", 0, 0, 0, 1);
        b.due(1023, "watched", 0);
        b.due(0, "watched", 20);
        b.due(0, "watched", 24);
        // Behind a box 1 high, one lot away, square 0 is seen from levels with -2 L > (1 - 2 L) 4: 1 and more.
        b.make("build", 0, 15, 0, 1);
        b.due(0b1111111110, "watched", 0);
        b.due(1023, "watched", 15);
        b.make("change", 0, 2, 0);
        b.due(0, "watched", 0);
        b.make("clear", 0);
        b.due(0, "watched", 0);
    }

    private void rent() {
        b.says(17, "What the TENANT of a WINDOW pays for it in this MONTH.");
        b.make("window", 10, 0, 1, 0);
        b.due(0, "rent", 0);
        b.make("build", 0, 11, 1, 9);
        b.due(9, "rent", 0);
        b.make("price", 0, 0);
        b.due(0, "rent", 0);
        b.make("price", 0, 99);
        b.due(891, "rent", 0);
        b.make("change", 11, 0, 6);
        b.due(1782, "rent", 0);
        b.make("change", 11, 0, 2);
        b.due(0, "rent", 0);
        b.make("change", 11, 0, 0);
        b.make("turn", 0, 3, 1);
        b.due(0, "rent", 0);
    }

    private void gain() {
        b.says(18, "What all WINDOWS bring an OWNER in this MONTH, less what it pays as TENANT.");
        for (int owner = 0; owner < 4; owner++) {
            b.due(0, "gain", owner);
        }
        for (int w = 0; w < 10; w++) {
            b.make("window", 10, 0, 1, w % 4);
        }
        b.make("build", 0, 11, 3, 9);
        // Windows 0, 4, 8 and 1, 5, 9 and 2, 6 pay 9 each; 3 and 7 are owner 3's own.
        int[] due = {-27, -27, -18, 72};
        for (int owner = 0; owner < 4; owner++) {
            b.due(due[owner], "gain", owner);
        }
        b.due(BEYOND, "gain", 4);
        b.due(BEYOND, "gain", -1);
        b.due(0, "purse", 3);
    }

    private void broken() {
        b.says(19, "WINDOWS whose CONTRACTS are BROKEN now, as a set.");
        b.due(0, "broken");
        for (int w = 0; w < 10; w++) {
            b.make("window", 10, 0, 1, 0);
            b.due((1 << w) - 1, "broken");
            b.due(1, "contract", w, 1, 1);
        }
        b.due(1023, "broken");
        b.make("build", 0, 11, 1, 1);
        b.due(0, "broken");
        b.make("contract", 9, 1, 2);
        b.due(512, "broken");
        b.make("contract", 9, -1, 2);
        b.due(0, "broken");
    }

    /** A box that costs 9 a month. */
    private void months() {
        b.says(20, "n MONTHS go (1 to 60): the sum of all rents paid.");
        b.make("window", 10, 0, 1, 0);
        b.make("build", 0, 11, 1, 9);
        b.due(BEYOND, "months", 0);
        b.due(0, "count", 0);
        b.due(9, "months", 1);
        b.due(1, "count", 0);
        b.due(540, "months", 60);
        b.due(61, "count", 0);
        b.due(BEYOND, "months", 61);
        b.due(61, "count", 0);
        b.due(549, "purse", 1);
        b.due(-549, "purse", 0);
        b.says(20, "STATE: MONTH would be above 999.");
        b.goTo(939);
        b.make("image");
        b.due(0, "months", 60);
        b.due(999, "count", 0);
        b.due(STATE, "months", 1);
        b.due(STATE, "months", 60);
        b.due(BEYOND, "months", 61);
        b.make("undo");
        b.make("months", 1);
        b.due(STATE, "months", 60);
        b.due(940, "count", 0);
        b.due(0, "months", 59);
        b.due(999, "count", 0);
    }

    private void ahead() {
        b.says(21, "AHEAD n MONTHS (0 to 120): what 0 rents paid in them, 1 WINDOWS whose CONTRACTS are BROKEN then, as a "
                + "set, 2 SQUARES in all VIEWS, 3 + OWNER its PURSE.");
        b.make("window", 10, 0, 1, 0);
        b.make("window", 10, 0, 1, 3);
        b.make("build", 4, 11, 1, 9);
        b.make("change", 11, 3, 1);
        b.make("contract", 1, 1, 9);
        // Washing hangs in months 0, 2, ..: 2 * 9 * 2 in each of these.
        int[] now = {0, 0, 18, 0, 0, 0, 0};
        int[] next = {36, 2, 0, -18, 36, 0, -18};
        int[] late = {60 * 36, 0, 18, -60 * 18, 60 * 36, 0, -60 * 18};
        for (int what = 0; what < 7; what++) {
            b.due(now[what], "ahead", 0, what);
            b.due(next[what], "ahead", 1, what);
            b.due(late[what], "ahead", 120, what);
        }
        b.due(BEYOND, "ahead", 121, 0);
        b.due(BEYOND, "ahead", -1, 0);
        b.due(BEYOND, "ahead", 0, 7);
        b.due(BEYOND, "ahead", 0, -1);
        b.fresh();
        b.make("build", 0, 11, 1, 9);
        for (int w = 0; w < 10; w++) {
            b.due(9 * w, "ahead", 0, 2);
            b.make("window", 10, 0, 1, 0);
        }
        b.due(90, "ahead", 0, 2);
        b.due(90 * 120, "ahead", 120, 0);
        b.says(21, "STATE: MONTH would be above 999.");
        b.goTo(879);
        b.due(0, "ahead", 120, 0);
        b.make("months", 1);
        b.due(STATE, "ahead", 120, 0);
        b.due(0, "ahead", 119, 0);
        b.goTo(999);
        for (int what = 0; what < 7; what++) {
            b.due(0, "ahead", 0, what);
            b.due(STATE, "ahead", 1, what);
        }
        b.due(BEYOND, "ahead", 121, 0);
        b.due(BEYOND, "ahead", 1, 7);
    }

    private void breach() {
        b.says(22, "Behind how many MONTHS (0 to 120) AHEAD a WINDOW's CONTRACT is BROKEN first.");
        b.make("window", 10, 0, 1, 0);
        b.make("build", 4, 11, 1, 9);
        b.make("contract", 0, 1, 9);
        // Washing is off in odd months.
        b.due(1, "breach", 0);
        b.make("months", 1);
        b.due(0, "breach", 0);
        b.make("months", 1);
        b.due(1, "breach", 0);
        b.make("contract", 0, 1, 10);
        b.due(0, "breach", 0);
        b.make("contract", 0, 1, 0);
        b.due(NONE, "breach", 0);
        b.says(22, "STATE: it has none, or MONTH is above 879.");
        b.make("window", 10, 0, 1, 0);
        b.due(STATE, "breach", 0);
        b.due(STATE, "blame", 0);
        // A contract with owner 0 is one too.
        b.make("build", 0, 11, 1, 9);
        b.make("build", 0, 12, 0, 9);
        b.make("contract", 0, 0, 1);
        b.due(0, "breach", 0);
        b.due(11, "blame", 0);
        b.make("contract", 0, 0, 0);
        b.due(NONE, "breach", 0);
        b.due(NONE, "blame", 0);
        b.make("clear", 11);
        b.make("clear", 12);
        b.make("contract", 0, 1, 1);
        b.due(0, "breach", 0);
        b.make("contract", 0, -1, 1);
        b.due(STATE, "breach", 0);
        b.make("contract", 0, 1, 1);
        b.goTo(879);
        b.due(0, "breach", 0);
        b.due(NONE, "blame", 0);
        b.make("months", 1);
        b.due(STATE, "breach", 0);
        b.due(STATE, "blame", 0);
        b.due(BEYOND, "breach", 1);
        b.goTo(999);
        b.due(STATE, "breach", 0);
    }

    /**
     * A tree, 0 high in month 4, is one higher behind months 7, 11, .., 39: 9 high in month 40, in winter too. Box 9 high
     * behind it, from level 8: square 8 is seen while (16 - 16) 1 is more than (2 h - 17) 2, so till the tree stands 9:
     * by summer it does so first when it is 7 high, in month 32, 28 months on.
     */
    private void breachInTime() {
        b.says(22, "Behind how many MONTHS (0 to 120) AHEAD a WINDOW's CONTRACT is BROKEN first.");
        b.goTo(4);
        b.make("build", 1, 11, 1, 0);
        b.make("build", 0, 12, 2, 9);
        b.make("window", 10, 8, 1, 0);
        b.make("contract", 0, 2, 1);
        b.due(28, "breach", 0);
        b.due(11, "blame", 0);
        b.make("months", 27);
        b.due(0, "broken");
        b.due(1, "breach", 0);
        b.make("months", 1);
        b.due(1, "broken");
        b.due(0, "breach", 0);
        // 8 high behind month 35 and out of summer; 9 high behind 39, in summer: broken in 39, when it stands 9.
        b.make("months", 1);
        b.due(0, "broken");
        b.due(6, "breach", 0);
        b.due(0, "ahead", 5, 1);
        b.due(1, "ahead", 6, 1);
    }

    private void blame() {
        b.says(23, "the least without whose THING (taken off now) it would not be BROKEN in that MONTH.");
        b.make("build", 3, 13, 1, 0);
        b.make("build", 0, 14, 2, 9);
        b.make("window", 10, 0, 1, 0);
        b.make("contract", 0, 2, 9);
        // The poplar is 1 high in month 2: it hides squares then, and was not to blame before.
        b.due(2, "breach", 0);
        b.due(13, "blame", 0);
        b.due(0, "of", 13, 2);
        b.due(2, "count", 1);
        // A box on a lot of a lesser number, that hides nothing then, isn't to blame.
        b.make("build", 0, 0, 1, 9);
        b.make("build", 0, 11, 1, 0);
        b.due(13, "blame", 0);
        b.make("change", 11, 2, 1);
        b.due(0, "breach", 0);
        b.due(11, "blame", 0);
        b.says(23, "NONE: it isn't, or no one is.");
        b.make("build", 0, 14, 2, 9);
        b.make("window", 10, 0, 1, 0);
        b.make("contract", 0, 2, 9);
        b.due(NONE, "blame", 0);
        b.make("contract", 0, 2, 10);
        b.due(0, "breach", 0);
        b.due(NONE, "blame", 0);
        b.make("contract", 0, 1, 1);
        b.due(NONE, "blame", 0);
        b.says(23, "STATE likewise.");
        b.make("window", 10, 0, 1, 0);
        b.due(STATE, "blame", 0);
        b.due(BEYOND, "blame", 1);
    }

    private void paint() {
        b.says(24, "PAINT of the THING on a LOT by which its OWNER gains most in this MONTH.");
        b.make("build", 0, 11, 1, 9);
        b.make("change", 11, 3, 2);
        b.due(0, "paint", 11);
        b.make("window", 10, 0, 1, 0);
        b.due(3, "paint", 11);
        b.make("price", 0, 4);
        b.due(0, "paint", 11);
        b.make("change", 11, 0, 2);
        b.due(3, "paint", 11);
        for (int paint = 1; paint < 4; paint++) {
            b.make("price", paint, 0);
        }
        b.due(0, "paint", 11);
        b.make("change", 11, 0, 0);
        b.due(0, "paint", 11);
        b.make("change", 11, 2, 0);
        b.due(0, "paint", 11);
        b.due(2, "of", 11, 3);
        b.make("clear", 11);
        b.due(NONE, "paint", 11);
        // Most is most also where all is loss.
        b.fresh();
        loss();
        b.due(3, "paint", 11);
        b.make("price", 1, 5);
        b.due(1, "paint", 11);
    }

    /** Owner 1 pays for 9 squares of a tower as a tenant, and gets what owner 0 pays for its box on lot 11. */
    private void loss() {
        b.make("build", 6, 1, 2, 9);
        b.make("change", 1, 3, 3);
        b.make("window", 0, 0, 1, 1);
        b.make("build", 0, 11, 1, 5);
        b.make("window", 10, 0, 1, 0);
        b.due(5 - 72, "gain", 1);
    }

    private void height() {
        b.says(25, "HEIGHT (0 to 9) of the THING on a LOT by which its OWNER gains most in this MONTH.");
        b.make("build", 0, 11, 1, 4);
        b.due(0, "height", 11);
        b.make("window", 10, 0, 1, 0);
        b.due(9, "height", 11);
        // A tower stands no higher than 9, a tree in summer neither: the least HEIGHT that does.
        b.make("change", 11, 0, 6);
        b.due(6, "height", 11);
        b.make("change", 11, 0, 1);
        b.due(9, "height", 11);
        b.goTo(3);
        b.due(7, "height", 11);
        // Washing that is off gains nothing, and a tenant nothing by its own.
        b.make("change", 11, 0, 4);
        b.make("change", 11, 3, 3);
        b.due(0, "height", 11);
        b.make("change", 11, 0, 0);
        b.due(9, "height", 11);
        b.make("turn", 0, 3, 1);
        b.due(0, "height", 11);
        b.due(4, "of", 11, 2);
        b.due(NONE, "height", 12);
        b.fresh();
        loss();
        b.due(9, "height", 11);
    }

    private void storey() {
        b.says(26, "By how much gain() of an OWNER changes, if the THING on a LOT gets one more of HEIGHT.");
        b.make("window", 10, 0, 1, 0);
        b.make("build", 0, 11, 1, 8);
        b.due(-1, "storey", 11, 0);
        b.due(1, "storey", 11, 1);
        b.due(0, "storey", 11, 2);
        b.due(BEYOND, "storey", 11, 4);
        b.due(BEYOND, "storey", 11, -1);
        b.make("change", 11, 2, 0);
        b.due(1, "storey", 11, 1);
        b.make("change", 11, 0, 6);
        b.make("change", 11, 2, 5);
        b.due(2, "storey", 11, 1);
        b.make("change", 11, 2, 6);
        b.due(0, "storey", 11, 1);
        b.says(26, "STATE: HEIGHT is 9.");
        b.make("build", 0, 11, 1, 9);
        b.due(STATE, "storey", 11, 1);
        b.due(BEYOND, "storey", 11, 4);
        b.make("change", 11, 2, 8);
        b.due(0, "storey", 11, 1);
        b.make("change", 11, 2, 9);
        b.make("clear", 11);
        b.due(NONE, "storey", 11, 1);
    }

    /** Window 0 is promised squares of the box behind, window 1 squares of the nearer box itself. */
    private void allowed() {
        b.says(27, "The greatest HEIGHT (0 to 9) of the THING on a LOT with which no more CONTRACTS are BROKEN now than "
                + "with HEIGHT 0.");
        b.make("build", 0, 11, 1, 5);
        b.due(9, "allowed", 11);
        b.make("build", 0, 12, 2, 9);
        b.make("window", 10, 0, 1, 0);
        b.make("contract", 0, 2, 9);
        b.due(0, "allowed", 11);
        b.make("contract", 0, 2, 7);
        b.due(1, "allowed", 11);
        b.make("contract", 0, 2, 0);
        b.due(9, "allowed", 11);
        b.make("contract", 0, 2, 10);
        b.due(9, "allowed", 11);
        // With 0 one is broken; with 1 and 2 both are; with 3 and more the other one alone.
        b.make("contract", 0, 2, 9);
        b.make("window", 10, 0, 1, 0);
        b.make("contract", 1, 1, 3);
        b.due(9, "allowed", 11);
        // In winter a tower 0 high stands 3 already: with 0 the one of the box behind is broken anyhow.
        b.make("change", 11, 0, 6);
        b.due(9, "allowed", 11);
        b.make("contract", 0, 2, 3);
        b.due(0, "allowed", 11);
        b.due(5, "of", 11, 2);
        b.due(NONE, "allowed", 13);
    }

    private void opens() {
        b.says(28, "WINDOWS that SEE more, if the THING on a LOT is taken off, as a set.");
        b.make("build", 0, 11, 1, 1);
        b.due(0, "opens", 11);
        for (int w = 0; w < 10; w++) {
            b.make("window", 10, 0, 1, 0);
        }
        b.due(0, "opens", 11);
        // Behind 11, 1 high, squares 0 and 1 of 12 are hidden: with it 1 and h - 2, without it h.
        b.make("build", 0, 12, 2, 1);
        b.due(0, "opens", 11);
        b.make("change", 12, 2, 2);
        b.due(1023, "opens", 11);
        b.due(0, "opens", 12);
        b.make("turn", 0, 2, 0);
        b.make("turn", 9, 2, 3);
        b.due(0b0111111110, "opens", 11);
        b.due(2, "count", 1);
        b.due(NONE, "opens", 13);
    }

    private void level() {
        b.says(29, "LEVEL (0 to 9) of a WINDOW with which it SEES most.");
        b.make("window", 10, 5, 1, 0);
        b.due(0, "level", 0);
        b.make("build", 0, 11, 1, 8);
        b.due(0, "level", 0);
        // Square j of the box behind is seen when j is above 15 - LEVEL: none from 7, one from 8, two from 9.
        b.make("build", 0, 12, 1, 9);
        b.due(9, "level", 0);
        b.make("change", 12, 2, 8);
        b.due(9, "level", 0);
        b.make("change", 12, 2, 7);
        b.due(0, "level", 0);
        b.due(5, "windowOf", 0, 1);
        b.due(BEYOND, "level", 1);
    }

    private void cheapest() {
        b.says(30, "WAY of a WINDOW in which its rent() is least.");
        int[] lots = {7, 13, 17, 11};
        for (int way = 0; way < 4; way++) {
            b.fresh();
            b.make("window", 12, 0, 0, 0);
            b.due(0, "cheapest", 0);
            for (int lot : lots) {
                b.make("build", 0, lot, 1, 9);
            }
            b.due(0, "cheapest", 0);
            b.make("change", lots[way], 2, 8);
            b.due(way, "cheapest", 0);
            b.make("change", lots[3], 2, 8);
            b.due(way, "cheapest", 0);
            b.due(0, "windowOf", 0, 2);
        }
    }

    private void site() {
        b.says(31, "The free LOT on which a THING (KIND, HEIGHT; PAINT 0) of an OWNER would bring it most gain() in this "
                + "MONTH.");
        b.make("window", 20, 0, 1, 0);
        b.due(21, "site", 0, 1, 9);
        b.due(0, "site", 0, 1, 0);
        b.due(0, "site", 2, 1, 9);
        b.make("price", 0, 0);
        b.due(0, "site", 0, 1, 9);
        b.make("price", 0, 1);
        b.make("build", 0, 21, 2, 0);
        b.make("build", 0, 22, 2, 0);
        b.make("build", 0, 23, 2, 0);
        b.due(24, "site", 0, 1, 9);
        b.says(31, "NONE: no LOT is free.");
        for (int lot = 0; lot < 24; lot++) {
            b.make("build", 0, lot, 3, 0);
        }
        b.due(24, "site", 0, 3, 0);
        b.make("clear", 0);
        b.make("build", 0, 24, 3, 0);
        b.due(0, "site", 0, 3, 9);
        b.make("build", 0, 0, 3, 0);
        b.due(NONE, "site", 2, 3, 9);
        // The one free lot will do, also where a shed for nothing would hide a tower of the same owner.
        b.make("change", 10, 0, 6);
        b.make("clear", 5);
        b.make("window", 0, 0, 2, 0);
        b.due(6, "gain", 3);
        b.due(5, "site", 2, 3, 9);
        b.make("build", 2, 5, 3, 9);
        b.due(0, "gain", 3);
        b.due(NONE, "site", 2, 3, 9);
        b.due(BEYOND, "site", 7, 3, 9);
    }

    /** By the season and by odd months gains are of four sorts; the latest of them comes first 7 months on. */
    private void worst() {
        b.says(32, "the MONTH (0 to 11 on) in which gain() of an OWNER, all else as it is, is least (MONTHS go on by number "
                + "alone: nothing GROWS, nobody pays).");
        b.goTo(9);
        b.make("build", 1, 11, 1, 0);
        b.make("build", 4, 16, 1, 4);
        b.make("change", 16, 3, 3);
        b.make("window", 10, 0, 1, 0);
        b.make("window", 15, 0, 1, 0);
        // Owner 0 pays 16 in even months, and for two squares of the tree in summer: both first in month 16.
        b.due(7, "worst", 0);
        b.due(0, "worst", 1);
        b.due(0, "worst", 2);
        b.due(9, "count", 0);
        b.due(0, "of", 11, 2);
        b.due(0, "purse", 0);
        b.make("clear", 16);
        b.due(6, "worst", 0);
        // Would it grow, month 20 would be the worst; by number alone it is as in month 15.
        b.make("change", 11, 0, 3);
        b.due(6, "worst", 0);
        // The least of nothing but gains, and of nothing but losses that are greatest now.
        b.fresh();
        b.goTo(4);
        b.make("build", 1, 11, 1, 5);
        b.make("window", 10, 0, 1, 0);
        b.due(14, "gain", 1);
        b.due(5, "worst", 1);
        b.due(0, "worst", 0);
        b.says(32, "STATE: MONTH is above 988.");
        b.goTo(988);
        for (int owner = 0; owner < 4; owner++) {
            b.due(0, "worst", owner);
        }
        b.make("months", 1);
        for (int owner = 0; owner < 4; owner++) {
            b.due(STATE, "worst", owner);
        }
        b.due(BEYOND, "worst", 4);
        b.goTo(999);
        b.due(STATE, "worst", 0);
    }

    /** In each of two rows, seen from its left end, a low box of one owner stands before a high one of the other. */
    private void rows(int first, int second, int height) {
        b.make("build", 0, first + 1, 0, height);
        b.make("build", 0, first + 2, 1, 9);
        b.make("build", 0, second + 1, 1, height);
        b.make("build", 0, second + 2, 0, 9);
        b.make("window", first, 0, 1, 2);
        b.make("window", second, 0, 1, 2);
    }

    private void trade() {
        b.says(33, "100 times the LOT of the first, and that of the second OWNER, such that both gain more in this MONTH: the "
                + "first so.");
        rows(0, 20, 1);
        // One high hides squares 0 and 1: one less of one's own, two more of the other's.
        b.due(121, "trade", 0, 1);
        b.due(2101, "trade", 1, 0);
        b.due(NONE, "trade", 0, 2);
        b.due(NONE, "trade", 2, 3);
        b.due(20, "count", 3);
        b.fresh();
        rows(20, 0, 4);
        // Four high hides squares 0 to 7, three high 0 to 5: two more for one less.
        b.due(2101, "trade", 0, 1);
        // Five high hides all: owner 1 would get square 8, and lose one of its own.
        b.make("change", 21, 2, 5);
        b.due(NONE, "trade", 0, 1);
        b.says(33, "one HEIGHT lower each (that has any)");
        rows(0, 20, 1);
        b.make("change", 1, 2, 0);
        b.due(NONE, "trade", 0, 1);
        b.due(0, "of", 1, 2);
        // Nor is a tower lower that stands 3 without HEIGHT: with 1 it would do.
        b.make("change", 1, 0, 6);
        b.make("change", 2, 3, 3);
        b.make("change", 22, 3, 3);
        b.due(NONE, "trade", 0, 1);
        b.make("change", 1, 2, 1);
        b.due(121, "trade", 0, 1);
        // But it may be one of the two, where both gain by the other: as lot 0 here by lot 11.
        b.fresh();
        b.make("build", 0, 11, 1, 3);
        b.make("build", 0, 12, 0, 9);
        b.make("build", 5, 16, 1, 9);
        b.make("window", 10, 0, 1, 2);
        b.make("window", 6, 0, 2, 2);
        b.make("build", 0, 0, 0, 0);
        b.due(11, "trade", 0, 1);
        b.due(1100, "trade", 1, 0);
        b.due(0, "of", 0, 2);
        // It gets no higher by that: in view and 0 high it gains its owner nothing.
        b.make("clear", 12);
        b.make("window", 1, 0, 3, 2);
        b.due(NONE, "trade", 0, 1);
        b.due(NONE, "trade", 1, 0);
        b.says(33, "BEYOND: also one and the same.");
        rows(0, 20, 1);
        for (int owner = 0; owner < 4; owner++) {
            b.due(BEYOND, "trade", owner, owner);
        }
        b.due(BEYOND, "trade", 4, 0);
        b.due(BEYOND, "trade", 0, -1);
        bothGainMore();
    }

    /** A gain of nothing isn't more: one more of two squares at 1 each, one less at 2. */
    private void bothGainMore() {
        b.says(33, "such that both gain more in this MONTH");
        rows(0, 20, 1);
        b.make("change", 1, 3, 1);
        b.due(NONE, "trade", 0, 1);
        b.due(NONE, "trade", 1, 0);
        b.make("change", 1, 3, 0);
        b.make("change", 21, 3, 1);
        b.due(NONE, "trade", 0, 1);
        b.make("change", 2, 3, 1);
        b.due(121, "trade", 0, 1);
    }

    private void swap() {
        b.says(34, "How many OWNERS gain more, if the THINGS on two LOTS change places, less how many gain less.");
        b.make("build", 0, 0, 1, 9);
        b.make("build", 0, 24, 2, 9);
        b.due(0, "swap", 0, 24);
        b.make("window", 5, 0, 0, 3);
        // Owner 2 gains, owner 1 gains less.
        b.due(0, "swap", 0, 24);
        b.make("change", 24, 2, 8);
        // And the tenant pays less.
        b.due(1, "swap", 0, 24);
        b.due(1, "swap", 24, 0);
        b.make("change", 24, 1, 1);
        b.due(0, "swap", 0, 24);
        b.make("change", 24, 1, 3);
        b.due(0, "swap", 0, 24);
        b.make("change", 0, 1, 3);
        b.make("change", 24, 1, 2);
        b.due(0, "swap", 0, 24);
        b.due(0, "swap", 0, 0);
        b.due(0, "swap", 24, 24);
        b.due(9, "of", 0, 2);
        b.due(3, "of", 0, 1);
        swapOfMany();
        b.says(34, "NONE: there is none on one.");
        b.make("build", 0, 0, 1, 9);
        b.due(NONE, "swap", 0, 1);
        b.due(NONE, "swap", 1, 0);
        b.due(NONE, "swap", 1, 1);
        b.due(0, "swap", 0, 0);
        b.due(BEYOND, "swap", 1, 25);
        b.due(BEYOND, "swap", -1, 1);
    }

    /** A dear box of owner 0 in three tenants' views, and a cheap one out of sight: three gain more, one less. */
    private void swapOfMany() {
        b.fresh();
        b.make("build", 0, 0, 0, 9);
        b.make("build", 0, 24, 0, 1);
        for (int tenant = 1; tenant < 4; tenant++) {
            b.make("window", 5, 0, 0, tenant);
        }
        b.due(2, "swap", 0, 24);
        b.make("change", 24, 2, 9);
        b.due(0, "swap", 0, 24);
        b.make("change", 24, 3, 1);
        b.due(-2, "swap", 0, 24);
        b.make("change", 24, 3, 0);
        b.make("change", 24, 0, 5);
        b.due(-2, "swap", 0, 24);
        b.make("change", 24, 0, 2);
        b.due(2, "swap", 0, 24);
        b.due(0, "of", 0, 0);
    }

    private void spill() {
        b.says(35, "n THINGS (1 to 12) get another PAINT");
        b.make("build", 0, 24, 1, 9);
        b.make("window", 20, 0, 1, 0);
        b.due(BEYOND, "spill", 0);
        b.due(BEYOND, "spill", 13);
        b.due(1, "count", 6);
        spilled(1, 1);
        spilled(1, 12);
        spilled(MIN, 12);
        spilled(MAX, 7);
        b.says(35, "STATE: there are none.");
        b.due(STATE, "spill", 1);
        b.due(STATE, "spill", 12);
        b.due(BEYOND, "spill", 0);
        b.due(BEYOND, "spill", 13);
        b.due(1, "count", 6);
        b.make("build", 0, 24, 1, 9);
        b.due(0, "spill", 12);
        b.make("clear", 24);
        b.due(STATE, "spill", 1);
        // The last of 25 things by lots, and the first.
        b.fresh();
        for (int lot = 24; lot >= 0; lot--) {
            b.make("build", 0, lot, 0, 0);
        }
        spillOf(0, 4);
        spillOf(24, 4);
    }

    /** With one thing every first draw of two is passed over; the last draw tells the paint. */
    private void spilled(int seed, int n) {
        int z = seed;
        b.make("seed", seed);
        for (int i = 0; i < 2 * n; i++) {
            z = z * 1103515245 + 12345;
        }
        int paint = (z >>> 8) % 4;
        b.due(9 * (paint + 1), "spill", n);
        b.due(paint, "of", 24, 3);
        b.due(z, "count", 6);
    }

    /** From the first z whose draw tells a lot of 25 and then a paint other than 0. */
    private void spillOf(int lot, int tries) {
        int left = tries;
        for (int z = 0; z < 10000 && left > 0; z++) {
            int first = z * 1103515245 + 12345;
            int second = first * 1103515245 + 12345;
            if ((first >>> 8) % 25 == lot && (second >>> 8) % 4 != 0) {
                b.make("change", lot, 3, 0);
                b.make("seed", z);
                b.due(0, "spill", 1);
                b.due((second >>> 8) % 4, "of", lot, 3);
                left--;
            }
        }
        b.check.due("seeds found for lot " + lot, left, 0);
    }

    private void seed() {
        b.says(36, "z becomes v: what it was.");
        b.due(1, "seed", MIN);
        b.due(MIN, "seed", MAX);
        b.due(MAX, "seed", -1000001);
        b.due(-1000001, "seed", -1000007);
        b.due(-1000007, "seed", 0);
        b.due(0, "seed", -1);
        b.due(-1, "count", 6);
        b.due(0, "status", -1);
        b.due(MISSING, "as", 0, 0);
        b.due(1, "status", -1);
    }
}
