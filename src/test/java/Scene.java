import java.util.ArrayList;
import java.util.List;

/** A town made by calls, as often as it is wanted; and all that can be asked of a town, to tell whether two are alike. */
final class Scene {
    private record Step(String name, int... args) {
    }

    final String name;
    private final List<Step> steps = new ArrayList<>();

    private Scene(String name) {
        this.name = name;
    }

    private Scene then(String call, int... args) {
        steps.add(new Step(call, args));
        return this;
    }

    private Scene tape(String text) {
        for (int i = 0; i < text.length(); i++) {
            then("feed", text.charAt(i), 1);
        }
        return this;
    }

    Subject made() {
        Subject x = new Subject();
        for (Step step : steps) {
            x.call(step.name, step.args);
        }
        return x;
    }

    static Scene empty() {
        return new Scene("empty");
    }

    /**
     * Of everything something, and room for more: 8 things, 9 windows, two broken contracts that have one to blame, and
     * a trade of owners 2 and 1 (the tower on lot 2 and the box on lot 11).
     */
    static Scene lively() {
        Scene s = new Scene("lively");
        s.then("build", 0, 0, 1, 9).then("image").then("months", 9);
        s.then("build", 0, 11, 1, 5).then("build", 5, 12, 2, 9).then("build", 3, 14, 3, 1).then("build", 4, 7, 0, 6);
        s.then("build", 1, 24, 1, 8).then("build", 6, 2, 2, 1).then("build", 2, 17, 0, 9);
        s.then("change", 0, 3, 3).then("change", 12, 3, 1).then("change", 7, 3, 2).then("change", 17, 3, 3).then("price", 2, 77);
        s.then("window", 10, 0, 1, 0);
        for (int w = 1; w < 8; w++) {
            s.then("window", 25 - 3 * w, w % 7, w % 4, (w + 1) % 4);
        }
        s.then("window", 10, 0, 1, 3).then("contract", 0, 2, 1).then("contract", 8, 2, 1).then("contract", 4, 1, 0);
        s.then("months", 4).then("seed", 12345).then("hold", 0, 0).then("hold", 9, 24).then("hold", 4, 12).then("hold", 5, 13);
        s.then("sheet", 0, 8, 5).then("sheet", 1, 8, 3).then("sheet", 2, 16, 4);
        for (int i = 0; i < 5; i++) {
            s.then("write", 0, i, 9 - i);
        }
        return s.then("write", 1, 2, 6).then("write", 2, 3, 8).tape("clear 2");
    }

    /** As much as there can be of everything, in the last month. */
    static Scene full() {
        Scene s = new Scene("full");
        for (int lot = 0; lot < 25; lot++) {
            s.then("build", lot % 7, lot, lot % 4, lot % 2 == 0 ? 9 : 3);
        }
        for (int w = 0; w < 10; w++) {
            s.then("window", 2 * w, 9, w % 4, w % 3).then("contract", w, 3, 36);
        }
        for (int spot = 0; spot < 10; spot++) {
            s.then("hold", spot, 24 - spot);
        }
        for (int sheet = 0; sheet < 4; sheet++) {
            s.then("sheet", sheet, 32, 40).then("write", sheet, sheet, 7);
        }
        for (int i = 0; i < 16; i++) {
            s.then("months", 60);
        }
        s.then("image").then("months", 39);
        for (int i = 0; i < 30; i++) {
            s.then("feed", 0x61616161, 4);
        }
        return s;
    }

    /** The answers to all that can be asked but status(); the town is no more what it was then. */
    static List<Integer> all(Subject x) {
        List<Integer> told = new ArrayList<>();
        counts(x, told);
        for (int lot = 0; lot < 25; lot++) {
            for (int what = 0; what < 4; what++) {
                told.add(x.call("of", lot, what));
            }
        }
        for (int window = 0; window < told.get(2); window++) {
            for (int what = 0; what < 6; what++) {
                told.add(x.call("windowOf", window, what));
            }
        }
        for (int owner = 0; owner < 4; owner++) {
            told.add(x.call("purse", owner));
            told.add(x.call("price", owner, 0));
        }
        for (int spot = 0; spot < 10; spot++) {
            told.add(x.call("as", spot, 0));
        }
        told.add(x.call("text"));
        sheets(x, told);
        told.add(x.call("undo"));
        counts(x, told);
        return told;
    }

    private static void counts(Subject x, List<Integer> told) {
        for (int what = 0; what < 8; what++) {
            told.add(x.call("count", what));
        }
    }

    /** Their lengths, which are of as many bits, the numbers as heights, and how many bits a number has. */
    private static void sheets(Subject x, List<Integer> told) {
        for (int lot = 0; lot < 5; lot++) {
            told.add(x.call("build", 0, lot, 0, 0));
        }
        for (int s = 0; s < 4; s++) {
            for (int n : Bench.ints(1, 3, 4, 5, 6, 40)) {
                told.add(x.call("copy", s, 0, s, 0, n));
            }
            told.add(x.call("copy", s, 0, (s + 1) % 4, 0, 0));
            told.add(x.call("load", s, 0));
            for (int lot = 0; lot < 5; lot++) {
                told.add(x.call("of", lot, 2));
            }
            told.add(x.call("count", 3));
            for (int v : Bench.ints(0x10105, 0x10005)) {
                told.add(x.call("write", s, 0, v));
                told.add(x.call("load", s, 0));
            }
        }
    }
}
