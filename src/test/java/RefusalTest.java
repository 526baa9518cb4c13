import java.util.HashMap;
import java.util.List;
import java.util.Map;
import java.util.Set;
import java.util.TreeMap;
import java.util.TreeSet;

/**
 * Every finding that the document names for a call, on both sides of each limit: the last value that is allowed isn't
 * refused for it, the first that isn't allowed is; and a refused call changes nothing but status().
 */
public final class RefusalTest {
    private static final String[] NAMES = {"BEYOND", "FULL", "KIND", "NONE", "STATE", "MISSING", "SIZE"};
    private static final int BEYOND = Bench.BEYOND;
    private static final int FULL = Bench.FULL;
    private static final int KIND = Bench.KIND;
    private static final int NONE = Bench.NONE;
    private static final int STATE = Bench.STATE;
    private static final int MISSING = Bench.MISSING;
    private static final int SIZE = Bench.SIZE;
    private static final int MIN = Bench.MIN;
    private static final int MAX = Bench.MAX;

    /**
     * A call that the lively town allows, and the limits of each of its numbers; where * stands any int may come, what
     * stands as - has its limits in another row.
     */
    private static final String[] LIMITS = {
        "build 0 1 0 0 : 0..6 0..24 0..3 0..9",
        "clear 0 : 0..24",
        "of 0 0 : 0..24 0..6",
        "change 0 0 0 : 0..24 0..3 0..6",
        "change 0 1 0 : - - 0..3",
        "change 0 2 0 : - - 0..9",
        "change 0 3 0 : - - 0..3",
        "price 0 0 : 0..3 0..99",
        "window 0 0 0 0 : 0..24 0..9 0..3 0..3",
        "windowOf 0 0 : 0..8 0..5",
        "turn 0 1 0 : 0..8 1..3 0..9",
        "turn 0 2 0 : - - 0..3",
        "turn 0 3 0 : - - 0..3",
        "contract 0 0 0 : 0..8 -1..3 0..36",
        "contract 0 -1 0 : 0..8 - 0..36",
        "purse 0 : 0..3",
        "sees 0 1 : 0..8 1..4",
        "view 0 : 0..8",
        "share 0 0 : 0..8 0..3",
        "lots 0 : 0..8",
        "watched 0 : 0..24",
        "rent 0 : 0..8",
        "gain 0 : 0..3",
        "months 1 : 1..60",
        "ahead 0 0 : 0..120 0..6",
        "breach 0 : 0..8",
        "blame 0 : 0..8",
        "paint 0 : 0..24",
        "height 0 : 0..24",
        "storey 14 0 : 0..24 0..3",
        "allowed 0 : 0..24",
        "opens 0 : 0..24",
        "level 0 : 0..8",
        "cheapest 0 : 0..8",
        "site 0 0 0 : 0..6 0..3 0..9",
        "worst 0 : 0..3",
        "trade 2 1 : 0..3 0..3",
        "swap 0 24 : 0..24 0..24",
        "spill 1 : 1..12",
        "seed 0 : *",
        "feed 0 1 : * 1..4",
        "hold 0 0 : 0..9 -1..24",
        "as 0 0 : 0..9 0..6",
        "sheet 0 8 0 : 0..3 - -",
        "write 0 0 0 : 0..3 0..4 *",
        "write 1 0 0 : - 0..2 *",
        "write 2 0 0 : - 0..3 *",
        "copy 0 0 1 0 3 : 0..3 0..2 0..3 0..0 0..3",
        "copy 1 0 0 0 2 : 0..3 0..1 0..3 0..3 0..3",
        "copy 2 1 2 2 2 : 0..3 0..2 0..3 0..2 0..2",
        "load 0 0 : 0..3 0..24",
        "judge 0 0 : 0..3 0..8",
        "count 0 : 0..7",
        "status 0 : -1..6",
    };

    private static final List<String> ASK_FOR_SHEETS = List.of("write", "copy", "load", "judge");

    private final Check check = new Check();
    private final Map<Scene, List<Integer>> untouched = new HashMap<>();
    private final Map<String, Set<String>> refused = new TreeMap<>();
    private final Scene empty = Scene.empty();
    private final Scene lively = Scene.lively();
    private final Scene full = Scene.full();

    private RefusalTest() {
    }

    public static void main(String[] args) {
        RefusalTest t = new RefusalTest();
        for (String row : LIMITS) {
            t.limits(row);
        }
        t.sheetsLimits();
        t.full();
        t.states();
        t.nones();
        t.missing();
        t.kinds();
        t.sizes();
        t.order();
        t.allNamed();
        t.check.end();
    }

    private void limits(String row) {
        String[] halves = row.split(" : ");
        String[] call = halves[0].split(" ");
        String[] ranges = halves[1].split(" ");
        int[] good = new int[ranges.length];
        for (int i = 0; i < good.length; i++) {
            good[i] = Integer.parseInt(call[i + 1]);
        }
        int answer = lively.made().call(call[0], good);
        check.holds(Calls.show(call[0], good) + " is allowed", !isFinding(call[0], answer));
        for (int i = 0; i < good.length; i++) {
            if (ranges[i].equals("*")) {
                allowed(call[0], good, i, MIN, MAX);
            } else if (!ranges[i].equals("-")) {
                String[] ends = ranges[i].split("\\.\\.");
                limit(call[0], good, i, Integer.parseInt(ends[0]), Integer.parseInt(ends[1]));
            }
        }
    }

    private void limit(String name, int[] good, int place, int first, int last) {
        allowed(name, good, place, first, last);
        for (int bad : Bench.ints(first - 1, last + 1, MIN, MIN + 1, MAX, MAX - 1, -1000001, first - 256, last + 256)) {
            int[] args = good.clone();
            args[place] = bad;
            refuse(lively, BEYOND, name, args);
            // A full town has one window more, and other sheets; an empty one has none of either.
            if (!ASK_FOR_SHEETS.contains(name) && bad != last + 1) {
                refuse(empty, BEYOND, name, args);
                refuse(full, BEYOND, name, args);
            }
        }
    }

    /** Both ends are not beyond; another finding may have its turn. */
    private void allowed(String name, int[] good, int place, int first, int last) {
        for (int end : Bench.ints(first, last)) {
            int[] args = good.clone();
            args[place] = end;
            int answer = lively.made().call(name, args);
            boolean same = name.equals("trade") && args[0] == args[1];
            check.holds(Calls.show(name, args) + " isn't beyond", same == (answer == BEYOND) || name.equals("seed"));
        }
    }

    private static boolean isFinding(String name, int answer) {
        return answer <= BEYOND && answer >= SIZE && !name.equals("purse") && !name.equals("seed");
    }

    /** The finding is told and counted, and all else is as in a town that was never asked. */
    private void refuse(Scene scene, int finding, String name, int... args) {
        String row = scene.name + " town: " + Calls.show(name, args);
        Subject x = scene.made();
        int[] before = status(x);
        check.due(row, x.call(name, args), finding);
        int[] after = status(x);
        for (int which = 0; which < 7; which++) {
            check.due(row + ", then status(" + which + ")", after[which], before[which] + (BEYOND - finding == which ? 1 : 0));
        }
        check.due(row + ", then status(-1)", after[7], before[7] + 1);
        List<Integer> due = untouched.computeIfAbsent(scene, s -> Scene.all(s.made()));
        check.holds(row + " changes nothing but status()", Scene.all(x).equals(due));
        refused.computeIfAbsent(name, n -> new TreeSet<>()).add(NAMES[BEYOND - finding]);
    }

    private static int[] status(Subject x) {
        int[] told = new int[8];
        for (int which = 0; which < 7; which++) {
            told[which] = x.call("status", which);
        }
        told[7] = x.call("status", -1);
        return told;
    }

    private void sheetsLimits() {
        for (int bits : Bench.ints(-8, -1, 1, 7, 9, 15, 17, 24, 31, 33, 64, 256, 264, MIN, MAX)) {
            refuse(lively, BEYOND, "sheet", 0, bits, 3);
            refuse(empty, BEYOND, "sheet", 3, bits, 0);
        }
        for (int bits : Bench.ints(0, 8, 16, 32)) {
            for (int n : Bench.ints(41, 42, 256, MAX)) {
                refuse(lively, BEYOND, "sheet", 0, bits, n);
                refuse(empty, BEYOND, "sheet", 0, bits, n);
            }
            check.due("sheet(0, " + bits + ", 40)", lively.made().call("sheet", 0, bits, 40), bits == 0 ? 0 : 40);
            check.due("sheet(0, " + bits + ", 0)", lively.made().call("sheet", 0, bits, 0), 0);
        }
    }

    private void full() {
        refuse(full, FULL, "window", 0, 0, 0, 0);
        refuse(full, FULL, "window", 24, 9, 3, 3);
        for (int n = 1; n <= 4; n++) {
            refuse(full, FULL, "feed", 0x20202020, n);
        }
    }

    private void states() {
        for (int lot : Bench.ints(0, 2, 7, 24)) {
            refuse(lively, STATE, "build", 0, lot, 0, 0);
            refuse(full, STATE, "build", 6, lot, 3, 9);
        }
        for (int n : Bench.ints(1, 2, 60)) {
            refuse(full, STATE, "months", n);
        }
        for (int what = 0; what < 7; what++) {
            refuse(full, STATE, "ahead", 1, what);
            refuse(full, STATE, "ahead", 120, what);
        }
        for (int window : Bench.ints(1, 7)) {
            refuse(lively, STATE, "breach", window);
            refuse(lively, STATE, "blame", window);
            refuse(full, STATE, "breach", window);
            refuse(full, STATE, "blame", window);
        }
        for (int owner = 0; owner < 4; owner++) {
            refuse(lively, STATE, "storey", 17, owner);
            refuse(full, STATE, "storey", 0, owner);
            refuse(full, STATE, "storey", 24, owner);
            refuse(full, STATE, "worst", owner);
        }
        refuse(empty, STATE, "spill", 1);
        refuse(empty, STATE, "spill", 12);
    }

    private void nones() {
        for (int lot : Bench.ints(1, 13, 23)) {
            for (String name : new String[] {"clear", "paint", "height", "allowed", "opens"}) {
                refuse(lively, NONE, name, lot);
                refuse(empty, NONE, name, lot);
            }
            for (int i = 0; i < 7; i++) {
                refuse(lively, NONE, "of", lot, i);
                refuse(lively, NONE, "change", lot, i % 4, i / 2);
                refuse(lively, NONE, "storey", lot, i % 4);
            }
            refuse(lively, NONE, "swap", lot, 0);
            refuse(lively, NONE, "swap", 0, lot);
            refuse(lively, NONE, "swap", lot, lot);
            refuse(empty, NONE, "swap", lot, 0);
        }
        refuse(lively, NONE, "breach", 4);
        refuse(lively, NONE, "blame", 4);
        refuse(full, NONE, "site", 0, 0, 0);
        refuse(full, NONE, "site", 6, 3, 9);
        refuse(empty, NONE, "trade", 0, 1);
        refuse(lively, NONE, "trade", 0, 1);
        refuse(empty, NONE, "undo");
    }

    private void missing() {
        for (int spot : Bench.ints(1, 5, 8)) {
            for (int kind = 0; kind < 7; kind++) {
                refuse(lively, MISSING, "as", spot, kind);
            }
        }
        refuse(empty, MISSING, "as", 9, 6);
        refuse(lively, MISSING, "write", 3, 0, 0);
        refuse(lively, MISSING, "load", 3, 0);
        refuse(lively, MISSING, "judge", 3, 0);
        refuse(lively, MISSING, "copy", 3, 0, 0, 0, 0);
        refuse(lively, MISSING, "copy", 0, 0, 3, 0, 0);
        refuse(lively, MISSING, "copy", 3, 0, 3, 0, 0);
        for (int s = 0; s < 4; s++) {
            refuse(empty, MISSING, "write", s, 0, 0);
            refuse(empty, MISSING, "load", s, 24);
        }
    }

    private void kinds() {
        for (int kind = 1; kind < 7; kind++) {
            refuse(lively, KIND, "as", 0, kind);
        }
        refuse(lively, KIND, "as", 9, 3);
        refuse(lively, KIND, "as", 4, 6);
        refuse(lively, KIND, "copy", 0, 0, 2, 0, 1);
        refuse(lively, KIND, "copy", 2, 0, 1, 0, 0);
    }

    private void sizes() {
        for (int n : Bench.ints(-1, -2, -40, -41, MIN)) {
            for (int bits : Bench.ints(0, 8, 16, 32)) {
                for (int s = 0; s < 4; s++) {
                    refuse(lively, SIZE, "sheet", s, bits, n);
                }
            }
        }
    }

    /** Where more than one finding would do, the one that the document asks first is told. */
    private void order() {
        refuse(lively, BEYOND, "build", 7, 0, 0, 0);
        refuse(full, BEYOND, "build", 0, 0, 0, 10);
        refuse(lively, BEYOND, "of", 1, 7);
        refuse(lively, BEYOND, "change", 1, 4, 0);
        refuse(lively, BEYOND, "change", 1, 0, 7);
        refuse(full, BEYOND, "window", 25, 0, 0, 0);
        refuse(full, BEYOND, "window", 0, 0, 0, 4);
        refuse(full, BEYOND, "months", 0);
        refuse(full, BEYOND, "months", 61);
        refuse(full, BEYOND, "months", MAX);
        refuse(full, BEYOND, "ahead", 121, 0);
        refuse(full, BEYOND, "ahead", 120, 7);
        refuse(full, BEYOND, "ahead", MAX, 0);
        refuse(full, BEYOND, "breach", 10);
        refuse(full, BEYOND, "blame", 10);
        refuse(lively, BEYOND, "storey", 1, 4);
        refuse(lively, BEYOND, "storey", 17, 4);
        refuse(full, BEYOND, "site", 7, 0, 0);
        refuse(full, BEYOND, "worst", 4);
        for (int owner = 0; owner < 4; owner++) {
            refuse(empty, BEYOND, "trade", owner, owner);
            refuse(lively, BEYOND, "trade", owner, owner);
            refuse(full, BEYOND, "trade", owner, owner);
        }
        refuse(lively, BEYOND, "swap", 1, 25);
        refuse(lively, BEYOND, "swap", -1, 1);
        refuse(empty, BEYOND, "spill", 0);
        refuse(empty, BEYOND, "spill", 13);
        refuse(full, BEYOND, "feed", 0, 5);
        refuse(full, BEYOND, "feed", 0, 0);
        refuse(lively, BEYOND, "as", 1, 7);
        refuse(lively, BEYOND, "as", 10, 0);
        sheetsOrder();
    }

    private void sheetsOrder() {
        refuse(lively, BEYOND, "sheet", 4, 8, -1);
        refuse(lively, BEYOND, "sheet", 0, 9, -1);
        refuse(lively, BEYOND, "sheet", -1, 0, -1);
        refuse(lively, BEYOND, "write", 4, 99, 0);
        refuse(lively, MISSING, "write", 3, 99, 0);
        refuse(lively, MISSING, "write", 3, -1, 0);
        refuse(lively, BEYOND, "copy", 4, 0, 3, 0, 1);
        refuse(lively, BEYOND, "copy", 3, 0, -1, 0, 1);
        refuse(lively, MISSING, "copy", 3, -1, 2, -1, -1);
        refuse(lively, MISSING, "copy", 0, -1, 3, 99, MAX);
        refuse(lively, KIND, "copy", 0, -1, 2, 0, 0);
        refuse(lively, KIND, "copy", 0, 0, 2, 0, 41);
        refuse(lively, KIND, "copy", 2, 99, 0, 99, MIN);
        refuse(lively, BEYOND, "copy", 0, MAX, 0, 0, 1);
        refuse(lively, BEYOND, "copy", 0, 1, 0, MAX, MAX);
        refuse(lively, BEYOND, "copy", 0, 6, 0, 0, 0);
        refuse(lively, BEYOND, "copy", 0, 0, 0, 6, 0);
        refuse(lively, BEYOND, "load", 4, 25);
        refuse(lively, MISSING, "load", 3, 25);
        refuse(lively, BEYOND, "judge", -1, 99);
        refuse(lively, MISSING, "judge", 3, 99);
    }

    /** Each finding that a promise names was told by its call here, and no other. */
    private void allNamed() {
        Document document = new Document();
        for (int promise = 2; promise <= Document.PROMISES && Document.isThere(); promise++) {
            String name = document.title(promise);
            Set<String> told = refused.getOrDefault(name, Set.of());
            check.holds("promise " + promise + ", " + name + ": the document names " + document.findings(promise)
                    + ", tested are " + told, told.equals(document.findings(promise)));
        }
    }
}
