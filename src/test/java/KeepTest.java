/** The boundary cases that promises 40 to 51 name: spots, sheets, images, counts. */
public final class KeepTest {
    private static final int BEYOND = Bench.BEYOND;
    private static final int FULL = Bench.FULL;
    private static final int KIND = Bench.KIND;
    private static final int NONE = Bench.NONE;
    private static final int MISSING = Bench.MISSING;
    private static final int SIZE = Bench.SIZE;
    private static final int MIN = Bench.MIN;
    private static final int MAX = Bench.MAX;

    private final Bench b = new Bench();

    private KeepTest() {
    }

    public static void main(String[] args) {
        KeepTest t = new KeepTest();
        t.hold();
        t.as();
        t.sheet();
        t.sheetAnew();
        t.write();
        t.writeLowestBits();
        t.copy();
        t.copyAsTheyWere();
        t.load();
        t.loadEnds();
        t.judge();
        t.judgeFour();
        t.image();
        t.undo();
        t.tear();
        t.count();
        t.status();
        t.b.quotesAll(40, 51);
        t.b.check.end();
    }

    private void hold() {
        b.says(40, "A SPOT holds a LOT, or nothing (-1): 1.");
        for (int spot = 0; spot < 10; spot++) {
            b.due(1, "hold", spot, 24);
            b.due(1, "hold", spot, 0);
            b.due(1, "hold", spot, -1);
            b.due(1, "hold", spot, -1);
            b.due(0, "count", 7);
        }
        b.due(BEYOND, "hold", 0, 25);
        b.due(BEYOND, "hold", 0, -2);
        b.due(BEYOND, "hold", 10, 0);
        b.due(BEYOND, "hold", -1, 0);
        b.due(BEYOND, "hold", -1, -1);
        // A lot on which nothing stands may be held too, and by more than one.
        b.due(1, "hold", 0, 24);
        b.due(1, "hold", 9, 24);
        b.due(2, "count", 7);
    }

    private void as() {
        b.says(41, "MISSING: it holds nothing, or nothing stands there.");
        b.due(MISSING, "as", 0, 0);
        b.make("hold", 0, 24);
        b.due(MISSING, "as", 0, 0);
        b.due(MISSING, "as", 0, 6);
        b.make("build", 6, 24, 0, 0);
        b.due(24, "as", 0, 0);
        b.due(24, "as", 0, 5);
        b.due(24, "as", 0, 6);
        b.make("clear", 24);
        b.due(MISSING, "as", 0, 6);
        b.make("build", 4, 24, 0, 0);
        b.due(24, "as", 0, 2);
        b.make("hold", 0, 0);
        b.due(MISSING, "as", 0, 0);
        b.make("build", 0, 0, 0, 0);
        b.due(0, "as", 0, 0);
        b.make("hold", 0, -1);
        b.due(MISSING, "as", 0, 0);
        b.says(41, "KIND: it isn't of that kind, nor of one under it.");
        b.make("hold", 9, 0);
        b.make("build", 0, 0, 0, 0);
        for (int kind = 1; kind < 7; kind++) {
            b.due(KIND, "as", 9, kind);
            b.make("change", 0, 0, kind);
            b.due(0, "as", 9, kind);
            b.due(0, "as", 9, 0);
            b.make("change", 0, 0, 0);
        }
        b.due(BEYOND, "as", 9, 7);
        b.due(BEYOND, "as", 9, -1);
        b.due(BEYOND, "as", 8, 7);
        b.due(MISSING, "as", 8, 6);
    }

    private void sheet() {
        b.says(42, "A sheet has n numbers, all 0, of 8, 16 or 32 bits; bits 0: it is MISSING: n (0 if it is MISSING).");
        for (int bits : Bench.ints(8, 16, 32)) {
            for (int n : Bench.ints(0, 1, 39, 40)) {
                b.due(n, "sheet", 3, bits, n);
                b.due(n, "copy", 3, 0, 3, 0, n);
                b.due(BEYOND, "copy", 3, 0, 3, 0, n + 1);
                b.due(BEYOND, "write", 3, n, 0);
            }
            b.due(0, "sheet", 3, 0, 40);
            b.due(MISSING, "write", 3, 0, 0);
            b.due(0, "sheet", 3, 0, 0);
            b.due(MISSING, "write", 3, 0, 0);
        }
        b.says(42, "BEYOND: no such sheet, other bits. SIZE: n is below 0 (also with bits 0). BEYOND: n is above 40.");
        b.make("sheet", 0, 8, 2);
        for (int bits : Bench.ints(0, 8, 16, 32)) {
            b.due(SIZE, "sheet", 0, bits, -1);
            b.due(SIZE, "sheet", 0, bits, MIN);
            b.due(BEYOND, "sheet", 0, bits, 41);
            b.due(BEYOND, "sheet", 0, bits, MAX);
            b.due(BEYOND, "sheet", 4, bits, -1);
            b.due(BEYOND, "sheet", -1, bits, 41);
            b.due(BEYOND, "sheet", 0, bits + 1, -1);
            b.due(BEYOND, "sheet", 0, bits - 1, -1);
        }
        b.due(BEYOND, "sheet", 0, 24, 1);
        b.due(BEYOND, "sheet", 0, 64, 1);
        b.due(BEYOND, "sheet", 0, -8, 1);
        b.due(1, "write", 0, 1, 0);
        b.due(BEYOND, "write", 0, 2, 0);
    }

    private void boxes(int from, int to) {
        for (int lot = from; lot <= to; lot++) {
            b.make("build", 0, lot, 0, 9);
        }
    }

    /** What a sheet's numbers are, told as heights on lots 0 and on. */
    private void numbers(int s, int... due) {
        b.due(due.length, "load", s, 0);
        for (int lot = 0; lot < due.length; lot++) {
            b.due(due[lot], "of", lot, 2);
        }
    }

    /** Made anew, a sheet has nothing of the numbers that it had, also where it is longer than before. */
    private void sheetAnew() {
        b.says(42, "A sheet has n numbers, all 0");
        boxes(0, 4);
        b.make("sheet", 0, 32, 5);
        numbers(0, 0, 0, 0, 0, 0);
        for (int i = 0; i < 5; i++) {
            b.make("write", 0, i, i + 1);
        }
        numbers(0, 1, 2, 3, 4, 5);
        b.make("sheet", 0, 32, 2);
        numbers(0, 0, 0);
        b.make("sheet", 0, 8, 5);
        numbers(0, 0, 0, 0, 0, 0);
        b.make("write", 0, 4, 7);
        b.make("sheet", 0, 0, 0);
        b.make("sheet", 0, 8, 5);
        numbers(0, 0, 0, 0, 0, 0);
        b.make("sheet", 1, 8, 5);
        b.make("write", 1, 0, 3);
        numbers(0, 0, 0, 0, 0, 0);
    }

    private void write() {
        b.says(43, "Number i of a sheet becomes v (its lowest bits): 1.");
        for (int s = 0; s < 4; s++) {
            b.make("sheet", s, 8 << s % 3 & 56, 40);
            b.due(1, "write", s, 0, MIN);
            b.due(1, "write", s, 39, MAX);
            b.due(BEYOND, "write", s, 40, 0);
            b.due(BEYOND, "write", s, -1, 0);
        }
        b.says(43, "BEYOND: no such sheet. MISSING. BEYOND: no such number.");
        for (int s : Bench.ints(-1, 4, MIN, MAX)) {
            b.due(BEYOND, "write", s, 0, 0);
        }
        for (int i : Bench.ints(-1, 0, 40, MIN, MAX)) {
            b.due(MISSING, "write", 0, i, 0);
        }
        b.make("sheet", 0, 8, 0);
        for (int i : Bench.ints(-1, 0, 40, MIN, MAX)) {
            b.due(BEYOND, "write", 0, i, 0);
        }
        b.make("sheet", 0, 8, 1);
        b.due(1, "write", 0, 0, 0);
        b.due(BEYOND, "write", 0, 1, 0);
    }

    private void writeLowestBits() {
        b.says(43, "becomes v (its lowest bits)");
        boxes(0, 0);
        int[][] ends = {{8, 256}, {16, 65536}};
        for (int[] row : ends) {
            b.make("sheet", 0, row[0], 1);
            for (int v : Bench.ints(0, 9, row[1], row[1] + 9, -row[1], -row[1] + 9, MIN, MIN + 9, MAX - row[1] + 1 + 9)) {
                b.due(1, "write", 0, 0, v);
                b.due(1, "load", 0, 0);
                b.due(v & 15, "of", 0, 2);
            }
            for (int v : Bench.ints(10, -1, row[1] - 1, row[1] / 2, row[1] + 10, -row[1] - 1, -row[1] + 10, MAX)) {
                b.due(1, "write", 0, 0, v);
                b.due(0, "load", 0, 0);
            }
        }
        b.make("sheet", 0, 32, 1);
        for (int v : Bench.ints(256, 65536, 65536 + 9, 1 << 30, MIN, MIN + 9, MAX, -1, 10)) {
            b.due(1, "write", 0, 0, v);
            b.due(0, "load", 0, 0);
        }
        b.due(1, "write", 0, 0, 9);
        b.due(1, "load", 0, 0);
    }

    private void copy() {
        b.says(44, "BEYOND: one has not so many, or from, to or n is below 0.");
        b.make("sheet", 0, 16, 40);
        b.make("sheet", 3, 16, 40);
        b.due(40, "copy", 0, 0, 3, 0, 40);
        b.due(40, "copy", 0, 0, 0, 0, 40);
        b.due(BEYOND, "copy", 0, 0, 3, 0, 41);
        b.due(BEYOND, "copy", 0, 1, 3, 0, 40);
        b.due(BEYOND, "copy", 0, 0, 3, 1, 40);
        b.due(39, "copy", 0, 1, 3, 0, 39);
        b.due(39, "copy", 0, 0, 3, 1, 39);
        b.due(1, "copy", 0, 39, 3, 39, 1);
        b.due(BEYOND, "copy", 0, 40, 3, 39, 1);
        b.due(BEYOND, "copy", 0, 39, 3, 40, 1);
        b.due(0, "copy", 0, 40, 3, 40, 0);
        b.due(0, "copy", 0, 0, 3, 0, 0);
        b.due(BEYOND, "copy", 0, 41, 3, 0, 0);
        b.due(BEYOND, "copy", 0, 0, 3, 41, 0);
        for (int bad : Bench.ints(-1, MIN, MAX)) {
            b.due(BEYOND, "copy", 0, bad, 3, 0, 1);
            b.due(BEYOND, "copy", 0, 0, 3, bad, 1);
            b.due(BEYOND, "copy", 0, 0, 3, 0, bad);
            b.due(BEYOND, "copy", 0, bad, 3, bad, bad);
            b.due(BEYOND, "copy", 0, bad, 3, 0, 0);
            b.due(BEYOND, "copy", 0, 0, 3, bad, 0);
        }
        b.due(BEYOND, "copy", 0, 1, 3, 0, MAX);
        b.due(BEYOND, "copy", 0, MAX, 3, 0, MAX);
        b.says(44, "BEYOND: no such sheet (either). MISSING: one is. KIND: they are not of as many bits.");
        b.make("sheet", 0, 8, 3);
        b.make("sheet", 1, 16, 3);
        b.make("sheet", 2, 32, 0);
        for (int s : Bench.ints(-1, 4, MIN, MAX)) {
            b.due(BEYOND, "copy", s, 0, 0, 0, 1);
            b.due(BEYOND, "copy", 0, 0, s, 0, 1);
            b.due(BEYOND, "copy", s, 0, 3, 0, -1);
            b.due(BEYOND, "copy", 3, 0, s, 0, -1);
        }
        b.due(MISSING, "copy", 3, 0, 0, 0, 0);
        b.due(MISSING, "copy", 0, 0, 3, -1, 0);
        b.due(MISSING, "copy", 3, 0, 3, 0, 0);
        b.due(KIND, "copy", 0, 0, 1, 0, 0);
        b.due(KIND, "copy", 1, 0, 0, 0, 99);
        b.due(KIND, "copy", 2, 0, 1, 0, 1);
        b.due(KIND, "copy", 0, 0, 2, 0, 0);
        b.due(0, "copy", 2, 0, 2, 0, 0);
        b.due(BEYOND, "copy", 2, 0, 2, 0, 1);
    }

    private void copyAsTheyWere() {
        b.says(44, "n numbers of a sheet from one on come to another one from one on (as they all were): n.");
        boxes(0, 5);
        b.make("sheet", 0, 8, 6);
        b.make("sheet", 1, 8, 6);
        for (int i = 0; i < 6; i++) {
            b.make("write", 0, i, i + 1);
        }
        b.due(6, "copy", 0, 0, 1, 0, 6);
        numbers(1, 1, 2, 3, 4, 5, 6);
        b.due(5, "copy", 0, 0, 0, 1, 5);
        numbers(0, 1, 1, 2, 3, 4, 5);
        b.due(6, "copy", 1, 0, 0, 0, 6);
        b.due(5, "copy", 0, 1, 0, 0, 5);
        numbers(0, 2, 3, 4, 5, 6, 6);
        b.due(6, "copy", 0, 0, 0, 0, 6);
        numbers(0, 2, 3, 4, 5, 6, 6);
        b.due(0, "copy", 1, 0, 0, 0, 0);
        numbers(0, 2, 3, 4, 5, 6, 6);
        b.due(1, "copy", 1, 0, 0, 5, 1);
        numbers(0, 2, 3, 4, 5, 6, 1);
        // The one copied from stays as it was.
        numbers(1, 1, 2, 3, 4, 5, 6);
    }

    private void load() {
        b.says(45, "become HEIGHTS of the THINGS on LOTS from one on (a number for a LOT without one is passed over): how "
                + "many THINGS got one.");
        b.make("sheet", 0, 32, 25);
        for (int i = 0; i < 25; i++) {
            b.make("write", 0, i, i % 10);
        }
        b.due(0, "load", 0, 0);
        b.due(0, "count", 1);
        b.make("build", 0, 0, 0, 5);
        b.make("build", 0, 24, 0, 5);
        b.due(2, "load", 0, 0);
        b.due(0, "of", 0, 2);
        b.due(4, "of", 24, 2);
        b.due(1, "load", 0, 1);
        b.due(3, "of", 24, 2);
        b.due(1, "load", 0, 24);
        b.due(0, "of", 24, 2);
        boxes(1, 23);
        b.due(25, "load", 0, 0);
        b.due(90 + 10, "count", 3);
        b.says(45, "BEYOND: no such sheet. MISSING. BEYOND: no such LOT.");
        for (int bad : Bench.ints(-1, MIN, MAX)) {
            b.due(BEYOND, "load", bad, 0);
            b.due(BEYOND, "load", bad, bad);
            b.due(MISSING, "load", 0, bad);
            b.due(MISSING, "load", 3, bad);
        }
        b.make("sheet", 0, 8, 0);
        for (int bad : Bench.ints(-1, 25, MIN, MAX)) {
            b.due(BEYOND, "load", 0, bad);
        }
        b.due(BEYOND, "load", 4, 0);
        b.due(0, "load", 0, 24);
        b.due(0, "load", 0, 0);
    }

    private void loadEnds() {
        b.says(45, "It ends at the first number that isn't 0 to 9, or for which there is no LOT.");
        boxes(20, 24);
        b.make("sheet", 0, 32, 40);
        b.due(5, "load", 0, 20);
        b.due(0, "count", 3);
        b.due(1, "load", 0, 24);
        for (int bad : Bench.ints(10, -1, 256, MIN, MAX)) {
            b.make("sheet", 0, 32, 5);
            for (int i = 0; i < 5; i++) {
                b.make("write", 0, i, i == 2 ? bad : 9);
                b.make("change", 20 + i, 2, 1);
            }
            b.due(2, "load", 0, 20);
            b.due(9 + 9 + 1 + 1 + 1, "count", 3);
            b.make("write", 0, 0, bad);
            b.due(0, "load", 0, 20);
        }
        // It ends there also where the number would have been passed over.
        b.make("sheet", 0, 32, 5);
        b.make("clear", 22);
        b.due(4, "load", 0, 20);
        b.make("write", 0, 2, 10);
        b.due(2, "load", 0, 20);
        b.make("write", 0, 2, 9);
        b.due(4, "load", 0, 20);
        b.make("write", 0, 4, -1);
        b.due(3, "load", 0, 20);
    }

    /** Boxes 1, 2, 3, 4 high seen from level 9: of the fourth, by (2 j - 18) 3 > -13 * 4, squares 1 to 3; else all. */
    private void judge() {
        b.says(46, "0 if all are, and there are four; else 1 and how many are right, from the first on.");
        for (int i = 0; i < 4; i++) {
            b.make("build", 0, 11 + i, 0, i + 1);
        }
        b.make("window", 10, 9, 1, 0);
        int[] right = {1, 3, 7, 14};
        for (int i = 0; i < 4; i++) {
            b.due(right[i], "sees", 0, i + 1);
        }
        b.make("sheet", 0, 8, 4);
        for (int i = 0; i < 4; i++) {
            b.due(1 + i, "judge", 0, 0);
            b.make("write", 0, i, right[i]);
        }
        b.due(0, "judge", 0, 0);
        // From the first on: what is right behind a wrong one doesn't count.
        for (int i = 3; i >= 0; i--) {
            b.make("write", 0, i, right[i] + 1);
            b.due(1 + i, "judge", 0, 0);
        }
        b.says(46, "BEYOND: no such sheet. MISSING. BEYOND: no such WINDOW.");
        for (int bad : Bench.ints(-1, MIN, MAX)) {
            b.due(BEYOND, "judge", bad, 0);
            b.due(BEYOND, "judge", bad, bad);
            b.due(MISSING, "judge", 0, bad);
        }
        b.due(BEYOND, "judge", 4, 0);
        b.make("sheet", 3, 8, 4);
        b.due(BEYOND, "judge", 3, 0);
        b.make("window", 0, 0, 0, 0);
        b.due(0, "judge", 3, 0);
        for (int bad : Bench.ints(-1, 1, 10, MIN, MAX)) {
            b.due(BEYOND, "judge", 3, bad);
        }
    }

    /** Nothing stands in view: zeros are right, as many as there are numbers, four at most. */
    private void judgeFour() {
        b.says(46, "0 if all are, and there are four");
        b.make("window", 0, 0, 0, 0);
        int[] due = {1, 2, 3, 4, 0, 5, 5};
        for (int n = 0; n <= 6; n++) {
            b.make("sheet", 0, 16, n);
            b.due(due[n], "judge", 0, 0);
        }
        b.make("sheet", 0, 16, 40);
        b.due(5, "judge", 0, 0);
        // Nine squares are 511: too many for 8 bits, whose lowest are -1.
        b.make("build", 0, 15, 0, 9);
        b.make("window", 20, 0, 0, 0);
        for (int bits : Bench.ints(8, 16, 32)) {
            b.make("sheet", 0, bits, 4);
            b.make("write", 0, 0, 511);
            b.due(bits == 8 ? 1 : 0, "judge", 0, 1);
        }
        b.make("write", 0, 0, 511 + 65536);
        b.due(1, "judge", 0, 1);
        b.make("sheet", 0, 16, 4);
        b.make("write", 0, 0, 511 + 65536);
        b.due(0, "judge", 0, 1);
        // Numbers have their sign, as Java's own: eight squares are 255, which 8 bits hold as -1.
        b.make("change", 15, 2, 8);
        for (int bits : Bench.ints(8, 16, 32)) {
            b.make("sheet", 0, bits, 4);
            b.make("write", 0, 0, 255);
            b.due(bits == 8 ? 1 : 0, "judge", 0, 1);
        }
        b.make("sheet", 0, 8, 4);
        b.make("change", 15, 2, 7);
        b.make("write", 0, 0, 127);
        b.due(0, "judge", 0, 1);
        b.make("write", 0, 0, 127 + 256);
        b.due(0, "judge", 0, 1);
    }

    private void image() {
        b.says(47, "All but THE TAPE and SHEETS is kept: 1.");
        b.due(1, "image");
        b.due(1, "image");
        b.make("feed", 0x20202020, 4);
        b.make("sheet", 0, 8, 4);
        b.make("build", 1, 0, 1, 1);
        b.make("window", 1, 1, 1, 1);
        b.make("contract", 0, 1, 1);
        b.make("hold", 9, 24);
        b.make("seed", MIN);
        b.make("price", 3, 99);
        b.make("months", 60);
        b.due(1, "image");
        b.make("feed", 0x2020, 2);
        b.make("write", 0, 3, 9);
        b.make("clear", 0);
        b.make("contract", 0, -1, 0);
        b.make("turn", 0, 3, 3);
        b.make("hold", 9, -1);
        b.make("seed", MAX);
        b.make("price", 3, 0);
        b.make("months", 60);
        b.due(60, "undo");
        b.due(6, "count", 5);
        b.due(1, "of", 0, 0);
        b.due(1, "windowOf", 0, 4);
        b.due(1, "windowOf", 0, 3);
        b.due(1, "count", 7);
        b.due(MIN, "count", 6);
        b.due(99, "price", 3, 4);
        b.make("hold", 0, 0);
        for (int lot = 1; lot < 4; lot++) {
            b.make("build", 0, lot, 0, 1);
        }
        b.due(4, "load", 0, 0);
        b.due(9, "of", 3, 2);
    }

    private void undo() {
        b.says(48, "It becomes what was kept latest (which stays): MONTH.");
        b.make("image");
        b.make("months", 1);
        b.due(0, "undo");
        b.due(0, "undo");
        b.make("months", 7);
        b.make("image");
        b.make("build", 0, 0, 0, 0);
        b.due(7, "undo");
        b.due(0, "count", 1);
        b.make("build", 0, 0, 0, 0);
        b.due(7, "undo");
        b.due(0, "count", 1);
        b.goTo(999);
        b.make("image");
        b.due(999, "undo");
        b.says(48, "NONE: nothing is kept.");
        b.make("build", 0, 0, 0, 0);
        b.due(NONE, "undo");
        b.due(1, "count", 1);
        b.make("image");
        b.make("clear", 0);
        b.due(0, "undo");
        b.due(1, "count", 1);
        b.make("tear");
        b.make("clear", 0);
        b.due(NONE, "undo");
        b.due(0, "count", 1);
    }

    private void tear() {
        b.says(49, "Nothing is kept: 1 if something was, else 0.");
        b.due(0, "tear");
        b.due(0, "tear");
        b.make("image");
        b.make("image");
        b.due(1, "tear");
        b.due(0, "tear");
        b.due(NONE, "undo");
        b.make("image");
        b.make("undo");
        b.due(1, "tear");
        b.due(0, "tear");
    }

    private void count() {
        b.says(50, "0 MONTH, 1 THINGS, 2 WINDOWS, 3 HEIGHT of all, 4 CONTRACTS, 5 bytes of THE TAPE, 6 z, 7 SPOTS that hold "
                + "something.");
        for (int lot = 0; lot < 25; lot++) {
            b.make("build", 6, lot, 0, 9);
        }
        for (int w = 0; w < 10; w++) {
            b.make("window", w, 0, 0, 0);
            b.make("contract", w, w % 4, 0);
            b.make("hold", w, w);
        }
        for (int i = 0; i < 30; i++) {
            b.make("feed", 0, 4);
        }
        b.goTo(999);
        int[] most = {999, 25, 10, 225, 10, 120, 1, 10};
        for (int what = 0; what < 8; what++) {
            b.due(most[what], "count", what);
        }
        b.says(50, "BEYOND: another what.");
        for (int what : Bench.ints(-1, 8, MIN, MAX)) {
            b.due(BEYOND, "count", what);
        }
        b.due(4, "status", 0);
    }

    private void status() {
        b.says(51, "How many acts answered a finding ever (undo() takes none back)");
        b.make("image");
        b.due(BEYOND, "clear", 25);
        for (int i = 0; i < 10; i++) {
            b.make("window", 0, 0, 0, 0);
        }
        b.due(FULL, "window", 0, 0, 0, 0);
        b.due(0, "undo");
        b.due(1, "status", 0);
        b.due(1, "status", 1);
        b.due(2, "status", -1);
        b.make("tear");
        b.due(NONE, "undo");
        b.due(1, "status", 3);
        b.due(3, "status", -1);
        b.says(51, "which -1: all, 0 to 6: BEYOND to SIZE.");
        for (int which = -1; which <= 6; which++) {
            b.due(0, "status", which);
        }
        b.due(SIZE, "sheet", 0, 8, -1);
        b.due(1, "status", 6);
        b.due(0, "status", 5);
        b.due(1, "status", -1);
        b.says(51, "BEYOND (counted from then on): another one.");
        int told = 0;
        for (int which : Bench.ints(-2, 7, MIN, MAX)) {
            b.due(BEYOND, "status", which);
            told++;
            b.due(told, "status", 0);
            b.due(told, "status", -1);
        }
        // Answers that look like findings are none: z may be any int.
        b.make("build", 0, 0, 0, 0);
        b.due(1, "seed", -1000003);
        b.due(-1000003, "count", 6);
        b.due(0, "status", 2);
        b.due(told, "status", -1);
    }
}
