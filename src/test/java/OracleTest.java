import java.util.ArrayList;
import java.util.Arrays;
import java.util.List;
import java.util.Random;

/** Runs of 512 calls, the same ones each time, against the oracle; each call's answer must be the oracle's. */
public final class OracleTest {
    private static final String[] ITEM_WORDS = {"box", "tree", "shed", "poplar", "washing", "house", "tower", "window",
        "price", "clear", "at", "of", "high", "paint", "level", "way", "for", ";", "boxes", "#", "A", "1000", "0007", "99"};
    private static final int RUNS = 300;

    private final Random random;
    private final Oracle oracle = new Oracle();
    private final WindowViews views = new WindowViews();
    private final Check check;
    private final String run;
    /** Every other town is full, with windows at its rim: there things hide one another. */
    private final boolean dense;
    private int calls = 0;

    private OracleTest(long seed, Check check) {
        this.random = new Random(seed);
        this.check = check;
        this.run = "run " + seed + ": ";
        this.dense = seed % 2 == 1;
    }

    public static void main(String[] args) {
        Check check = new Check();
        int runs = args.length > 0 ? Integer.parseInt(args[0]) : RUNS;
        for (int seed = 0; seed < runs && check.wrong() == 0; seed++) {
            new OracleTest(seed, check).go(seed);
        }
        check.end();
    }

    private void go(int seed) {
        for (int lot = 0; lot < 25; lot++) {
            if (random.nextInt(5) < (dense ? 4 : 2)) {
                same("build", random.nextInt(7), lot, random.nextInt(4), random.nextInt(dense ? 6 : 10));
            }
        }
        int windows = dense ? 10 : random.nextInt(11);
        for (int i = 0; i < windows; i++) {
            int along = random.nextInt(5);
            int way = random.nextInt(4);
            int rim = new int[] {20 + along, 5 * along, along, 5 * along + 4}[way];
            same("window", dense ? rim : random.nextInt(25), random.nextInt(10), way, random.nextInt(4));
        }
        for (int i = 0; i < windows; i++) {
            same("contract", i, random.nextInt(4), random.nextInt(random.nextBoolean() ? 6 : 37));
        }
        while (calls < 512) {
            step(seed);
        }
    }

    private void step(int seed) {
        int choice = random.nextInt(20);
        if (choice == 0) {
            feedText();
            same("text");
        } else if (choice == 1) {
            rightSheet();
        } else if (choice == 2 && seed % 3 == 0) {
            same("months", 1 + random.nextInt(60));
        } else {
            String row = FaceTest.FACE[random.nextInt(FaceTest.FACE.length)];
            String name = row.substring(0, row.indexOf(' '));
            // Too many undos would leave the runs in their beginnings, too many clears the towns empty.
            if (name.equals("undo") && random.nextInt(4) != 0 || name.equals("clear") && dense) {
                return;
            }
            same(name, arguments(name));
        }
    }

    private int pick(int limit) {
        return random.nextInt(40) == 0 ? (random.nextBoolean() ? limit : -1) : random.nextInt(limit);
    }

    private int pickWindow() {
        return pick(Math.max(1, oracle.w.wins.size()));
    }

    private int[] arguments(String name) {
        switch (name) {
            case "build": return new int[] {pick(7), pick(25), pick(4), pick(10)};
            case "window": return new int[] {pick(25), pick(10), pick(4), pick(4)};
            case "of": return new int[] {pick(25), pick(7)};
            case "change": return new int[] {pick(25), pick(4), pick(random.nextBoolean() ? 4 : 10)};
            case "price": return new int[] {pick(4), pick(100)};
            case "windowOf": return new int[] {pickWindow(), pick(6)};
            case "turn": return new int[] {pickWindow(), 1 + pick(3), pick(random.nextBoolean() ? 4 : 10)};
            case "contract": return new int[] {pickWindow(), pick(5) - 1, pick(random.nextBoolean() ? 6 : 37)};
            case "sees": return new int[] {pickWindow(), 1 + pick(4)};
            case "share": return new int[] {pickWindow(), pick(4)};
            case "view": case "lots": case "rent": case "breach": case "blame": case "level": case "cheapest":
                return new int[] {pickWindow()};
            case "purse": case "gain": case "worst": return new int[] {pick(4)};
            case "months": return new int[] {1 + pick(5)};
            case "ahead": return new int[] {pick(121), pick(7)};
            case "storey": return new int[] {pick(25), pick(4)};
            case "site": return new int[] {pick(7), pick(4), pick(10)};
            case "trade": return new int[] {pick(4), pick(4)};
            case "swap": return new int[] {pick(25), pick(25)};
            case "spill": return new int[] {1 + pick(12)};
            case "seed": return new int[] {random.nextInt()};
            case "feed": return new int[] {random.nextInt(), 1 + pick(4)};
            case "hold": return new int[] {pick(10), pick(26) - 1};
            case "as": return new int[] {pick(10), pick(7)};
            case "sheet": return new int[] {pick(4), 8 * new int[] {0, 1, 1, 2, 2, 4, 4, 3}[random.nextInt(8)], pick(41)};
            case "write": return new int[] {pick(4), pick(20), random.nextBoolean() ? pick(10) : random.nextInt()};
            case "copy": return new int[] {pick(4), pick(10), pick(4), pick(10), pick(10)};
            case "load": return new int[] {pick(4), pick(25)};
            case "judge": return new int[] {pick(4), pickWindow()};
            case "count": return new int[] {pick(8)};
            case "status": return new int[] {pick(8) - 1};
            default: {
                int[] all = new int[Calls.arity(name)];
                Arrays.setAll(all, i -> pick(25));
                return all;
            }
        }
    }

    /** A text that is mostly right, with a word or number now and then that isn't. */
    private void feedText() {
        List<String> words = new ArrayList<>();
        int items = 1 + random.nextInt(4);
        for (int i = 0; i < items; i++) {
            if (i > 0) {
                words.add(";");
            }
            words.addAll(List.of(item().split(" ")));
        }
        if (random.nextInt(3) == 0) {
            int at = random.nextInt(words.size());
            switch (random.nextInt(3)) {
                case 0: words.set(at, ITEM_WORDS[random.nextInt(ITEM_WORDS.length)]); break;
                case 1: words.remove(at); break;
                default: words.add(at, ITEM_WORDS[random.nextInt(ITEM_WORDS.length)]); break;
            }
        }
        StringBuilder text = new StringBuilder();
        for (String word : words) {
            boolean tight = word.equals(";") || text.length() == 0 || text.charAt(text.length() - 1) == ';';
            text.append(tight && random.nextInt(3) != 0 ? "" : random.nextInt(8) == 0 ? "  " : " ").append(word);
        }
        feed(text.toString());
    }

    private String item() {
        String[] kinds = {"box", "tree", "shed", "poplar", "washing", "house", "tower"};
        switch (random.nextInt(8)) {
            case 0:
                return "window at " + pick(25) + " level " + pick(10) + " way " + pick(4) + " for " + pick(4);
            case 1:
                return "price " + pick(4) + " " + pick(100);
            case 2:
                return "clear " + pick(25);
            default:
                return kinds[random.nextInt(7)] + " at " + pick(25) + " of " + pick(4) + " high " + pick(10)
                        + (random.nextBoolean() ? " paint " + pick(4) : "");
        }
    }

    private void feed(String text) {
        same("wipe");
        for (int i = 0; i < text.length(); i += 4) {
            int bytes = 0;
            int n = Math.min(4, text.length() - i);
            for (int j = 0; j < n; j++) {
                bytes = bytes << 8 | text.charAt(i + j);
            }
            same("feed", bytes, n);
        }
    }

    /** A sheet with what a window sees, perhaps but for one number. */
    private void rightSheet() {
        int window = pickWindow();
        int sheet = random.nextInt(4);
        int n = random.nextInt(4) == 0 ? random.nextInt(7) : 4;
        same("sheet", sheet, 8 << random.nextInt(3) & 56, n);
        for (int k = 1; k <= 4; k++) {
            int seen = same("sees", window, k);
            same("write", sheet, k - 1, random.nextInt(10) == 0 ? random.nextInt(512) : seen);
        }
        same("judge", sheet, window);
    }

    /** Behind the 512th call nothing is promised: what a step would still ask there isn't asked. */
    private int same(String name, int... args) {
        if (calls >= 512) {
            return 0;
        }
        calls++;
        int want = oracle.call(name, args);
        check.due(run + Calls.show(name, args), Calls.call(views, name, args), want);
        return want;
    }
}
