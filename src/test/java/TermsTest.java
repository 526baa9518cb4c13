/** The boundary cases that the document's terms name, sentence by sentence; those of THE TAPE are in TextTest. */
public final class TermsTest {
    private static final int BEYOND = Bench.BEYOND;
    private static final int FULL = Bench.FULL;
    private static final int NONE = Bench.NONE;
    private static final int STATE = Bench.STATE;
    private static final int MISSING = Bench.MISSING;
    private static final int MIN = Bench.MIN;
    private static final int MAX = Bench.MAX;
    private static final String PLAIN = "0123456789";

    private final Bench b = new Bench();

    private TermsTest() {
    }

    public static void main(String[] args) {
        TermsTest t = new TermsTest();
        t.findings();
        t.sets();
        t.leastNumber();
        t.lotsAndWays();
        t.thingsOnLots();
        t.kinds();
        t.monthsAndSeasons();
        t.stands();
        t.grows();
        t.growsNineAtMost();
        t.prices();
        t.windows();
        t.looksFromItsLot();
        t.townsEnd();
        t.squares();
        t.seen();
        t.seenOnTheEdge();
        t.eachNearerThing();
        t.hidesNothing();
        t.rentsThenGrowth();
        t.purses();
        t.ahead();
        t.contracts();
        t.draws();
        t.spots();
        t.sheets();
        t.b.check.end();
    }

    private void findings() {
        b.says(0, "FINDINGS are answers below -1000000: LOW is -1000001; LOW BEYOND, LOW - 1 FULL, LOW - 2 KIND, "
                + "LOW - 3 NONE, LOW - 4 STATE, LOW - 5 MISSING, LOW - 6 SIZE");
        for (int w = 0; w < 10; w++) {
            b.make("window", 0, 0, 0, 0);
        }
        b.due(-1000001, "clear", 25);
        b.due(-1000002, "window", 0, 0, 0, 0);
        b.due(-1000004, "clear", 0);
        b.due(-1000005, "spill", 1);
        b.due(-1000006, "as", 0, 0);
        b.due(-1000007, "sheet", 0, 8, -1);
        b.make("build", 0, 0, 0, 0);
        b.make("hold", 0, 0);
        b.due(-1000003, "as", 0, 1);
        for (int which = 0; which < 7; which++) {
            b.due(1, "status", which);
        }
    }

    private void sets() {
        b.says(0, "Sets are told as bits");
        b.make("build", 0, 0, 1, 9);
        b.make("build", 0, 24, 1, 9);
        b.make("window", 4, 0, 3, 0);
        for (int w = 1; w < 9; w++) {
            b.make("window", 12, 0, 0, 0);
        }
        b.make("window", 20, 0, 1, 0);
        b.due(0b111111111, "sees", 0, 4);
        b.due(1, "lots", 0);
        b.due(1 << 24, "lots", 9);
        b.due(1, "watched", 0);
        b.due(1 << 9, "watched", 24);
        b.due(1, "contract", 0, 0, 1);
        b.due(1, "contract", 9, 1, 10);
        b.due(1 << 9 | 1, "broken");
        b.due(1 << 9 | 1, "ahead", 5, 1);
        b.make("build", 0, 3, 1, 1);
        b.make("build", 0, 21, 1, 1);
        b.due(1, "opens", 3);
        b.due(1 << 9, "opens", 21);
    }

    /** In an empty view, and where all is alike, the least number is the answer. */
    private void leastNumber() {
        b.says(0, "of several that would do the least number counts, where nothing else is told");
        b.make("build", 0, 12, 0, 5);
        b.make("window", 0, 5, 3, 2);
        b.due(0, "paint", 12);
        b.due(0, "height", 12);
        b.due(9, "allowed", 12);
        b.due(0, "level", 0);
        b.due(0, "cheapest", 0);
        b.due(0, "site", 0, 0, 9);
        b.due(0, "worst", 0);
        // Ways 0, 2 and 3 cost nothing from lot 0, ways 1 and 2 from lot 24, where the boxes on 19 and 23 cost as much.
        b.fresh();
        b.make("build", 0, 1, 1, 9);
        b.make("window", 0, 0, 1, 0);
        b.due(0, "cheapest", 0);
        b.make("build", 0, 19, 1, 9);
        b.make("window", 24, 0, 3, 0);
        b.due(1, "cheapest", 1);
        // Two paints at one price; four sites that window 1 sees whole.
        b.make("price", 1, 9);
        b.make("price", 2, 9);
        b.due(1, "paint", 1);
        b.due(20, "site", 0, 1, 9);
        // Both hide what is owner 2's: no one alone is to blame, until one of them is low.
        b.fresh();
        b.make("build", 0, 16, 1, 9);
        b.make("build", 0, 11, 1, 9);
        b.make("build", 0, 6, 2, 9);
        b.make("window", 21, 0, 0, 0);
        b.make("contract", 0, 2, 1);
        b.due(NONE, "blame", 0);
        b.make("change", 16, 2, 0);
        b.due(11, "blame", 0);
        leastToBlame(0, 21, Bench.ints(16, 11, 6, 1), 6);
        leastToBlame(2, 1, Bench.ints(6, 11, 16, 21), 16);
        leastTrade();
    }

    /**
     * Boxes 1, 1, 4, 5 high, the second and fourth of the partner, of whom nothing is seen: without the first box one
     * square of the second, without the third one two of the fourth.
     */
    private void leastToBlame(int way, int from, int[] lots, int third) {
        b.fresh();
        b.make("build", 0, lots[0], 1, 1);
        b.make("build", 0, lots[1], 2, 1);
        b.make("build", 0, lots[2], 1, 4);
        b.make("build", 0, lots[3], 2, 5);
        b.make("window", from, 0, way, 0);
        b.due(1, "contract", 0, 2, 1);
        b.due(0, "share", 0, 2);
        b.due(6, "blame", 0);
        b.due(1, "contract", 0, 2, 2);
        b.due(third, "blame", 0);
        b.due(1, "contract", 0, 2, 3);
        b.due(NONE, "blame", 0);
    }

    /** Both of owner 0's things hide from one window, and from another, what is owner 1's; and the other way round. */
    private void leastTrade() {
        b.fresh();
        b.make("build", 0, 1, 0, 3);
        b.make("build", 0, 2, 1, 9);
        b.make("build", 0, 6, 0, 3);
        b.make("build", 0, 7, 1, 9);
        b.make("build", 0, 11, 1, 3);
        b.make("build", 0, 12, 0, 9);
        b.make("build", 0, 16, 1, 3);
        b.make("build", 0, 17, 0, 9);
        for (int row = 0; row < 4; row++) {
            b.make("window", 5 * row, 0, 1, 2);
        }
        b.due(111, "trade", 0, 1);
        b.due(1101, "trade", 1, 0);
        b.make("change", 11, 2, 0);
        b.due(116, "trade", 0, 1);
        b.make("change", 1, 2, 0);
        b.due(616, "trade", 0, 1);
    }

    private static int expectedLots(int lot, int way) {
        int row = lot / 5;
        int column = lot % 5;
        int set = 0;
        for (int k = 1; k <= 4; k++) {
            int r = row + (way == 2 ? k : way == 0 ? -k : 0);
            int c = column + (way == 1 ? k : way == 3 ? -k : 0);
            if (r >= 0 && r <= 4 && c >= 0 && c <= 4) {
                set |= 1 << 5 * r + c;
            }
        }
        return set;
    }

    private void lotsAndWays() {
        b.says(0, "LOTS 0 to 24: 5 times a ROW and a COLUMN (0 to 4 each). WAYS 0 to 3: 0 one ROW less, 1 one COLUMN "
                + "more, 2 one ROW more, 3 one COLUMN less");
        for (int begin = 0; begin < 25; begin += 10) {
            b.fresh();
            for (int lot = 0; lot < 25; lot++) {
                b.make("build", 0, lot, 0, 1);
            }
            for (int lot = begin; lot < Math.min(25, begin + 10); lot++) {
                int w = b.make("window", lot, 9, 0, 0);
                for (int way = 0; way < 4; way++) {
                    b.make("turn", w, 2, way);
                    b.due(expectedLots(lot, way), "lots", w);
                    b.due(Integer.bitCount(expectedLots(lot, way)), "view", w);
                }
            }
        }
    }

    private void thingsOnLots() {
        b.says(0, "On a LOT stands one THING or none (at first), of an OWNER (0 to 3), with HEIGHT (0 to 9) and PAINT "
                + "(0 to 3; 0 at first)");
        for (int lot = 0; lot < 25; lot++) {
            b.due(NONE, "of", lot, 0);
        }
        b.due(BEYOND, "of", -1, 0);
        b.due(BEYOND, "of", 25, 0);
        for (int lot = 0; lot < 25; lot++) {
            b.due(lot + 1, "build", lot % 7, lot, lot % 4, lot % 10);
            b.due(STATE, "build", 0, lot, 0, 0);
        }
        for (int lot = 0; lot < 25; lot++) {
            int[] is = {lot % 7, lot % 4, lot % 10, 0};
            for (int what = 0; what < 4; what++) {
                b.due(is[what], "of", lot, what);
            }
        }
        // A thing that comes later has nothing of the one that stood there.
        for (int lot : Bench.ints(0, 24)) {
            b.make("change", lot, 3, 3);
            b.make("clear", lot);
            b.due(NONE, "of", lot, 3);
            b.due(25, "build", 0, lot, 0, 0);
            b.due(0, "of", lot, 3);
            b.due(0, "of", lot, 2);
        }
    }

    private void kinds() {
        b.says(0, "of KINDS: 0 BOX; 1 TREE, 2 SHED, 5 HOUSE under BOX; 3 POPLAR under TREE; 4 WASHING under SHED; "
                + "6 TOWER under HOUSE");
        String[] above = {"0", "01", "02", "013", "024", "05", "056"};
        for (int kind = 0; kind < 7; kind++) {
            b.make("build", kind, kind, 0, 0);
            b.make("hold", kind, kind);
            for (int wanted = 0; wanted < 7; wanted++) {
                b.due(above[kind].indexOf('0' + wanted) >= 0 ? kind : Bench.KIND, "as", kind, wanted);
            }
            b.due(BEYOND, "as", kind, 7);
            b.due(BEYOND, "as", kind, -1);
        }
        b.due(BEYOND, "build", 7, 24, 0, 0);
        b.due(BEYOND, "build", -1, 24, 0, 0);
    }

    private void monthsAndSeasons() {
        b.says(0, "MONTH is 0 at first (999 at most); its rest by 12 is the SEASON'S month, SUMMER is 3 to 8 of these");
        b.due(0, "count", 0);
        b.make("build", 1, 0, 0, 0);
        for (int month = 0; month <= 48; month++) {
            b.make("change", 0, 2, 0);
            b.due(summer(month) ? 2 : 0, "of", 0, 4);
            b.due(summer(month) ? 2 : 1, "of", 0, 5);
            b.make("months", 1);
        }
        b.fresh();
        b.make("build", 1, 0, 0, 0);
        b.goTo(980);
        for (int month = 980; month <= 999; month++) {
            b.make("change", 0, 2, 0);
            b.due(summer(month) ? 2 : 0, "of", 0, 4);
            b.due(month, "count", 0);
            b.due(month == 999 ? STATE : 0, "months", 1);
        }
        b.due(999, "count", 0);
    }

    private static boolean summer(int month) {
        return "000111111000".charAt(month % 12) == '1';
    }

    /** What things of a kind, 0 to 9 high, stand in a month. */
    private void stand(int month, int kind, String want) {
        b.fresh();
        b.goTo(month);
        b.make("build", kind, 0, 0, 0);
        for (int height = 0; height <= 9; height++) {
            b.make("change", 0, 2, height);
            b.due(want.charAt(height) - '0', "of", 0, 4);
        }
    }

    private void stands() {
        String leaves = "2345678999";
        for (int month : Bench.ints(0, 1, 2, 3, 4, 8, 9, 11, 12, 15, 998, 999)) {
            String tree = summer(month) ? leaves : PLAIN;
            b.says(0, "STANDS (how high it stands now): BOX: HEIGHT.");
            stand(month, 0, PLAIN);
            b.says(0, "TREE: as a BOX, and 2 more in SUMMER.");
            stand(month, 1, tree);
            b.says(0, "WASHING: as a SHED, but 0 if MONTH is odd.");
            stand(month, 4, month % 2 == 0 ? PLAIN : "0000000000");
            b.says(0, "TOWER: as a HOUSE, and 3. 9 at most, all.");
            stand(month, 6, "3456789999");
            b.says(0, "(Others as the KIND above.)");
            stand(month, 2, PLAIN);
            stand(month, 3, tree);
            stand(month, 5, PLAIN);
        }
    }

    private void grow(int kind, String want) {
        b.fresh();
        b.make("build", kind, 0, 0, 0);
        int height = 0;
        for (int month = 0; month < 12; month++) {
            b.due(want.charAt(month) - '0', "of", 0, 6);
            b.make("months", 1);
            height += want.charAt(month) - '0';
            b.due(height, "of", 0, 2);
        }
        b.fresh();
        b.make("build", kind, 0, 0, 0);
        b.goTo(996);
        for (int month = 996; month <= 999; month++) {
            b.due(want.charAt(month % 12) - '0', "of", 0, 6);
            b.due(month == 999 ? STATE : 0, "months", 1);
        }
    }

    private void grows() {
        b.says(0, "BOX: 0. TREE: 1, if the rest of MONTH by 4 is 3, else 0.");
        grow(0, "000000000000");
        grow(1, "000100010001");
        b.says(0, "POPLAR: as a TREE, or 1, if the rest of MONTH by 4 is 1.");
        grow(3, "010101010101");
        b.says(0, "(Others as the KIND above.)");
        for (int kind : Bench.ints(2, 4, 5, 6)) {
            grow(kind, "000000000000");
        }
    }

    private void growsNineAtMost() {
        b.says(0, "GROWS (how much HEIGHT gets in a MONTH, 9 at most)");
        b.make("build", 1, 0, 0, 8);
        b.make("build", 3, 1, 0, 8);
        b.make("build", 3, 2, 0, 9);
        int[] tree = {8, 8, 8, 8, 9, 9, 9, 9, 9};
        int[] poplar = {8, 8, 9, 9, 9, 9, 9, 9, 9};
        for (int month = 0; month < 9; month++) {
            b.due(tree[month], "of", 0, 2);
            b.due(poplar[month], "of", 1, 2);
            b.due(9, "of", 2, 2);
            b.due(tree[month] + poplar[month] + 9, "count", 3);
            b.make("months", 1);
        }
        b.make("months", 60);
        b.due(27, "count", 3);
    }

    /** What one square of a thing of a kind costs by paints 0 to 3, outside of summer and in it. */
    private void cost(int kind, int[] winter, int[] summer) {
        for (int paint = 0; paint < 4; paint++) {
            b.make("change", 0, 0, kind);
            b.make("change", 0, 3, paint);
            b.due(b.make("count", 0) == 3 ? summer[paint] : winter[paint], "of", 0, 5);
        }
    }

    private void costs() {
        cost(0, Bench.ints(1, 99, 0, 4), Bench.ints(1, 99, 0, 4));
        cost(1, Bench.ints(1, 99, 0, 4), Bench.ints(2, 100, 1, 5));
        cost(2, Bench.ints(0, 99, 0, 4), Bench.ints(0, 99, 0, 4));
        cost(3, Bench.ints(1, 99, 0, 4), Bench.ints(2, 100, 1, 5));
        cost(4, Bench.ints(0, 99, 0, 4), Bench.ints(0, 99, 0, 4));
        cost(5, Bench.ints(2, 198, 0, 8), Bench.ints(2, 198, 0, 8));
        cost(6, Bench.ints(2, 198, 0, 8), Bench.ints(2, 198, 0, 8));
    }

    private void prices() {
        b.says(0, "PRICE OF PAINT (by PAINT; 1, 2, 3, 4 at first; 0 to 99)");
        b.make("build", 0, 0, 0, 9);
        cost(0, Bench.ints(1, 2, 3, 4), Bench.ints(1, 2, 3, 4));
        b.due(2, "price", 1, 99);
        b.due(BEYOND, "price", 1, 100);
        b.due(3, "price", 2, 0);
        b.due(BEYOND, "price", 2, -1);
        costs();
        b.goTo(3);
        costs();
        b.says(0, "HOUSE: twice what a BOX has. SHED: 0, if PAINT is 0; else as a BOX. TREE: as a BOX, and 1 in SUMMER.");
        b.make("price", 0, 99);
        b.make("build", 2, 0, 0, 9);
        b.due(0, "of", 0, 5);
        b.make("change", 0, 0, 4);
        b.due(0, "of", 0, 5);
        b.make("change", 0, 0, 5);
        b.due(198, "of", 0, 5);
        b.goTo(8);
        b.make("change", 0, 0, 1);
        b.due(100, "of", 0, 5);
        b.goTo(9);
        b.due(99, "of", 0, 5);
        b.make("price", 0, 0);
        b.due(0, "of", 0, 5);
    }

    private void windows() {
        b.says(0, "WINDOWS 0, 1, .. (at most 10), each on a LOT, with LEVEL (0 to 9), a WAY, and a TENANT (an OWNER)");
        for (int w = 0; w < 10; w++) {
            b.due(BEYOND, "view", w);
            b.due(w, "window", 24 - w, w, w % 4, 3 - w % 4);
            b.due(0, "view", w);
        }
        b.due(FULL, "window", 0, 0, 0, 0);
        b.due(10, "count", 2);
        b.due(BEYOND, "view", 10);
        for (int w = 0; w < 10; w++) {
            int[] is = {24 - w, w, w % 4, 3 - w % 4, -1, 0};
            for (int what = 0; what < 6; what++) {
                b.due(is[what], "windowOf", w, what);
            }
        }
    }

    private void looksFromItsLot() {
        b.says(0, "a window looks from its LOT whatever stands there");
        b.make("build", 0, 11, 1, 1);
        b.make("window", 10, 0, 1, 0);
        for (int kind = 0; kind < 7; kind++) {
            b.make("build", kind, 10, 1, 9);
            b.due(1, "sees", 0, 1);
            b.due(1, "view", 0);
            b.due(1 << 11, "lots", 0);
            b.due(0, "watched", 10);
            b.due(1, "rent", 0);
            b.make("clear", 10);
            b.due(1, "view", 0);
        }
    }

    private void townsEnd() {
        b.says(0, "A WINDOW SEES in its WAY, LOT behind LOT to the town's end");
        for (int lot = 0; lot < 25; lot++) {
            b.make("build", 0, lot, 0, lot % 5 == 0 || lot < 5 ? 9 : 1);
        }
        // From the middle two lots are left each way; from the rim none or four.
        b.make("window", 12, 9, 0, 0);
        b.due(1, "sees", 0, 1);
        b.due(0b111111111, "sees", 0, 2);
        b.due(0, "sees", 0, 3);
        b.due(0, "sees", 0, 4);
        b.make("window", 4, 9, 1, 0);
        b.make("window", 4, 9, 0, 0);
        b.make("window", 20, 9, 2, 0);
        b.make("window", 20, 9, 3, 0);
        for (int w = 1; w <= 4; w++) {
            for (int k = 1; k <= 4; k++) {
                b.due(0, "sees", w, k);
            }
            b.due(0, "view", w);
        }
        b.make("window", 9, 9, 3, 0);
        b.due(0b111111111, "sees", 5, 4);
        b.due(BEYOND, "sees", 5, 5);
        b.due(BEYOND, "sees", 5, 0);
    }

    private void squares() {
        b.says(0, "of a THING that is k LOTS away (1 to 4) and STANDS h, SQUARES 0 to h - 1 (by levels)");
        b.make("window", 20, 4, 0, 0);
        for (int k = 1; k <= 4; k++) {
            b.make("build", 0, 20 - 5 * k, 1, 0);
            for (int height = 0; height <= 9; height++) {
                b.make("change", 20 - 5 * k, 2, height);
                b.due((1 << height) - 1, "sees", 0, k);
                b.due(height, "view", 0);
            }
            b.make("clear", 20 - 5 * k);
        }
        b.fresh();
        b.make("window", 20, 0, 0, 0);
        b.make("build", 6, 15, 1, 7);
        b.due(0b111111111, "sees", 0, 1);
        b.make("change", 15, 0, 4);
        b.due(0b1111111, "sees", 0, 1);
        b.make("months", 1);
        b.due(0, "sees", 0, 1);
        b.due(0, "lots", 0);
        b.due(0, "watched", 15);
    }

    /** One nearer thing of each height, from each level, at each pair of places: every square by the rule's own words. */
    private void seen() {
        for (int far = 2; far <= 4; far++) {
            for (int near = 1; near < far; near++) {
                b.says(0, "SQUARE j of it is SEEN, if for each THING nearer by (k' LOTS away, 1 to k - 1, that STANDS "
                        + "h'): (2 j - 2 LEVEL) k' is more than (2 h' - 2 LEVEL - 1) k.");
                b.make("build", 0, 10 + near, 0, 0);
                b.make("build", 0, 10 + far, 0, 9);
                b.make("window", 10, 0, 1, 0);
                for (int level = 0; level <= 9; level++) {
                    b.make("turn", 0, 1, level);
                    for (int height = 0; height <= 9; height++) {
                        b.make("change", 10 + near, 2, height);
                        int set = 0;
                        for (int j = 0; j < 9; j++) {
                            set |= (2 * j - 2 * level) * near > (2 * height - 2 * level - 1) * far ? 1 << j : 0;
                        }
                        b.due(set, "sees", 0, far);
                    }
                }
            }
        }
    }

    /** Where both sides of the rule are the same the square isn't seen; the one above it is. */
    private void seenOnTheEdge() {
        b.says(0, "(2 j - 2 LEVEL) k' is more than (2 h' - 2 LEVEL - 1) k");
        edge(1, 2, 0, 2, 3);
        edge(1, 2, 4, 4, 3);
        edge(1, 2, 9, 8, 6);
        edge(1, 4, 0, 1, 2);
        edge(1, 4, 9, 9, 7);
        edge(2, 4, 0, 2, 3);
        edge(2, 4, 3, 3, 2);
        edge(3, 4, 0, 2, 2);
        edge(3, 4, 5, 4, 3);
    }

    private void edge(int near, int far, int level, int height, int square) {
        b.fresh();
        b.check.due("both sides are the same", (2 * square - 2 * level) * near, (2 * height - 2 * level - 1) * far);
        b.make("build", 0, 10 + near, 0, height);
        b.make("build", 0, 10 + far, 0, 9);
        b.make("window", 10, level, 1, 0);
        b.due(0b111111111 & -(1 << square + 1), "sees", 0, far);
        b.make("change", 10 + far, 2, square + 1);
        b.due(0, "sees", 0, far);
        b.make("change", 10 + far, 2, square + 2);
        b.due(1 << square + 1, "sees", 0, far);
    }

    /** From level 0 a thing 1 high one lot away hides squares 0 and 1 two lots away, 0 to 2 of four; 0 to 1 of three. */
    private void eachNearerThing() {
        b.says(0, "if for each THING nearer by");
        b.make("build", 0, 14, 0, 9);
        b.make("window", 10, 0, 1, 0);
        b.due(0b111111111, "sees", 0, 4);
        b.make("build", 0, 11, 0, 1);
        b.due(0b111111000, "sees", 0, 4);
        b.make("build", 0, 13, 0, 3);
        // (2 j) 3 > 5 * 4: square 4 is the first above both.
        b.due(0b111110000, "sees", 0, 4);
        b.make("build", 0, 12, 0, 4);
        // (2 j) 2 > 7 * 4: square 8 is the first above all three.
        b.due(0b100000000, "sees", 0, 4);
        b.make("clear", 12);
        b.make("clear", 13);
        b.due(0b111111000, "sees", 0, 4);
        b.make("change", 11, 2, 9);
        b.due(0, "sees", 0, 4);
        b.due(9, "view", 0);
    }

    private void hidesNothing() {
        b.says(0, "(LOTS without a THING hide nothing.)");
        b.make("build", 0, 14, 0, 9);
        b.make("build", 4, 11, 0, 9);
        b.make("build", 0, 12, 0, 9);
        b.make("build", 0, 13, 0, 9);
        b.make("window", 10, 0, 1, 0);
        b.due(0, "sees", 0, 4);
        b.make("clear", 12);
        b.make("clear", 13);
        b.due(0, "sees", 0, 4);
        b.make("clear", 11);
        b.due(0b111111111, "sees", 0, 4);
        // A thing that stands 0 hides nothing either, from any level.
        b.make("build", 4, 11, 0, 9);
        b.make("build", 0, 12, 0, 0);
        b.make("months", 1);
        for (int level = 0; level <= 9; level++) {
            b.make("turn", 0, 1, level);
            b.due(0b111111111, "sees", 0, 4);
        }
    }

    private void rentsThenGrowth() {
        b.says(0, "(b) Each THING GROWS (by MONTH as it is). Then MONTH is one more.");
        b.make("build", 1, 11, 1, 0);
        b.make("window", 10, 0, 1, 0);
        b.due(0, "months", 3);
        // Month 3: it stands 2 (summer), each square 2; only then it is 1 high.
        b.due(4, "months", 1);
        b.due(1, "of", 11, 2);
        b.due(0, "of", 11, 6);
        b.due(4, "count", 0);
        b.due(6, "months", 1);
    }

    /** A tower 6 high has 9 squares of 2 * 99 each: 1782 a window, 17820 a month; 1069200 in 60 months. */
    private void purses() {
        b.says(0, "PRICE goes from the TENANT's PURSE to the OWNER's (PURSES are 0 at first, they may be below 0)");
        for (int owner = 0; owner < 4; owner++) {
            b.due(0, "purse", owner);
        }
        b.make("price", 0, 99);
        b.make("build", 6, 11, 1, 6);
        b.make("build", 6, 1, 0, 6);
        for (int w = 0; w < 10; w++) {
            b.make("window", 10, w, 1, 0);
        }
        b.due(17820, "months", 1);
        b.due(-17820, "purse", 0);
        b.due(17820, "purse", 1);
        b.due(1051380, "months", 59);
        b.due(-1069200, "purse", 0);
        b.due(1069200, "purse", 1);
        b.due(0, "purse", 2);
        b.due(-1069200 - 120 * 17820, "ahead", 120, 3);
        // An answer as low as findings are is none of them.
        b.due(0, "status", -1);
        // The tenant pays nothing for squares of its own.
        for (int w = 0; w < 10; w++) {
            b.make("turn", w, 3, 1);
        }
        b.due(0, "months", 1);
        b.due(1069200, "purse", 1);
        for (int w = 0; w < 10; w++) {
            b.make("turn", w, 2, 0);
        }
        b.goTo(999);
        b.due(1069200, "purse", 1);
    }

    private void ahead() {
        b.says(0, "AHEAD: n MONTHS go on with all as it is; nothing changes.");
        b.make("build", 3, 11, 1, 0);
        b.make("build", 0, 12, 2, 9);
        b.make("window", 10, 0, 1, 0);
        b.make("contract", 0, 2, 9);
        for (int n : Bench.ints(0, 1, 2, 4, 60, 120)) {
            for (int what = 0; what < 7; what++) {
                b.make("ahead", n, what);
            }
            b.due(0, "count", 0);
            b.due(0, "of", 11, 2);
            b.due(9, "count", 3);
            b.due(0, "purse", 0);
            b.due(0, "purse", 2);
            b.due(9, "view", 0);
        }
        // And what was told is so when the months have gone.
        int[] told = new int[7];
        for (int what = 0; what < 7; what++) {
            told[what] = b.make("ahead", 30, what);
        }
        b.due(told[0], "months", 30);
        b.due(told[1], "broken");
        b.due(told[2], "view", 0);
        for (int owner = 0; owner < 4; owner++) {
            b.due(told[3 + owner], "purse", owner);
        }
    }

    private void contracts() {
        b.says(0, "A CONTRACT of a WINDOW: an OWNER and LEAST (0 to 36; none at first: OWNER -1): it is BROKEN when the "
                + "VIEW has fewer than LEAST SQUARES of that OWNER.");
        b.make("build", 0, 11, 1, 3);
        b.make("build", 0, 12, 2, 9);
        b.make("window", 10, 0, 1, 0);
        b.due(-1, "windowOf", 0, 4);
        b.due(0, "windowOf", 0, 5);
        b.due(0, "count", 4);
        b.due(0, "broken");
        b.due(0, "contract", 0, 1, 3);
        b.due(0, "broken");
        b.due(1, "contract", 0, 1, 4);
        b.due(1, "broken");
        // Squares of others don't count.
        b.due(1, "contract", 0, 0, 1);
        b.due(0, "contract", 0, 0, 0);
        b.due(1, "contract", 0, 3, 36);
        b.due(36, "windowOf", 0, 5);
        b.due(BEYOND, "contract", 0, 3, 37);
        b.due(BEYOND, "contract", 0, 3, -1);
        b.due(BEYOND, "contract", 0, 4, 36);
        b.due(BEYOND, "contract", 0, -2, 36);
        b.due(3, "windowOf", 0, 4);
        b.due(36, "windowOf", 0, 5);
    }

    /** Draws are z >>> 8, also where z is below 0: 24 bits, never below 0. */
    private void draws() {
        b.says(0, "z is told (1 at first); each makes it z * 1103515245 + 12345 (an int), and gives z >>> 8");
        b.due(1, "count", 6);
        for (int from : Bench.ints(0, 1, -1, 2, 3, 5, 1000, MIN, MAX, MIN + 1, MAX - 1, -1000001, 1103515245)) {
            long first = from * 1103515245L + 12345 & 0xffffffffL;
            long second = first * 1103515245L + 12345 & 0xffffffffL;
            drawn(from, (int) second, (int) (first / 256 % 3), (int) (second / 256 % 4));
        }
    }

    /** From a z one draw tells a thing of three, the next its paint. */
    private void drawn(int from, int z, int thing, int paint) {
        int[] lots = {3, 9, 24};
        int other = paint == 0 ? 1 : 0;
        b.fresh();
        for (int lot : lots) {
            b.make("build", 0, lot, 0, 0);
            b.make("change", lot, 3, other);
        }
        b.due(1, "seed", from);
        b.due(from, "count", 6);
        b.due(0, "spill", 1);
        b.due(z, "count", 6);
        for (int i = 0; i < 3; i++) {
            b.due(i == thing ? paint : other, "of", lots[i], 3);
        }
    }

    private void spots() {
        b.says(0, "SPOTS 0 to 9 hold a LOT or nothing (at first).");
        for (int lot = 0; lot < 25; lot++) {
            b.make("build", 0, lot, 0, 0);
        }
        for (int spot = 0; spot < 10; spot++) {
            b.due(MISSING, "as", spot, 0);
            b.due(spot, "count", 7);
            b.due(1, "hold", spot, 24 - spot);
            b.due(24 - spot, "as", spot, 0);
        }
        b.due(10, "count", 7);
        b.due(BEYOND, "hold", 10, 0);
        b.due(BEYOND, "as", 10, 0);
        b.due(BEYOND, "hold", -1, 0);
        b.due(BEYOND, "as", -1, 0);
        b.due(1, "hold", 9, 0);
        b.due(0, "as", 9, 0);
        b.due(10, "count", 7);
        for (int spot = 0; spot < 10; spot++) {
            b.due(1, "hold", spot, -1);
            b.due(MISSING, "as", spot, 0);
            b.due(9 - spot, "count", 7);
        }
    }

    private void sheets() {
        b.says(0, "SHEETS 0 to 3: rows of at most 40 numbers of 8, 16 or 32 bits, or MISSING (at first).");
        for (int s = 0; s < 4; s++) {
            b.due(MISSING, "write", s, 0, 0);
            b.due(MISSING, "load", s, 0);
            b.due(MISSING, "judge", s, 0);
            b.due(MISSING, "copy", s, 0, s, 0, 0);
            for (int bits : Bench.ints(8, 16, 32)) {
                b.due(40, "sheet", s, bits, 40);
                b.due(BEYOND, "sheet", s, bits, 41);
                b.due(1, "write", s, 39, 9);
                b.due(BEYOND, "write", s, 40, 9);
                b.due(40, "copy", s, 0, s, 0, 40);
                b.due(BEYOND, "copy", s, 0, s, 0, 41);
            }
        }
        b.due(BEYOND, "sheet", 4, 8, 1);
        b.due(BEYOND, "sheet", -1, 8, 1);
    }
}
