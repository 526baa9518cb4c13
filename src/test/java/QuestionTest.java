import java.util.List;

/** Calls that only ask change nothing, whatever they try out; asked with every number within their limits. */
public final class QuestionTest {
    /** A call and the first and last of each of its numbers. */
    private static final String[] QUESTIONS = {
        "of 0..24 0..6", "windowOf 0..9 0..5", "purse 0..3", "sees 0..9 1..4", "view 0..9", "share 0..9 0..3",
        "lots 0..9", "watched 0..24", "rent 0..9", "gain 0..3", "broken", "ahead 0..120 0..6", "breach 0..9",
        "blame 0..9", "paint 0..24", "height 0..24", "storey 0..24 0..3", "allowed 0..24", "opens 0..24", "level 0..9",
        "cheapest 0..9", "site 0..6 0..3 0..9", "worst 0..3", "trade 0..3 0..3", "swap 0..24 0..24", "as 0..9 0..6",
        "judge 0..3 0..9", "count 0..7", "status -1..6",
    };

    private final Check check = new Check();

    private QuestionTest() {
    }

    public static void main(String[] args) {
        QuestionTest t = new QuestionTest();
        for (Scene scene : new Scene[] {Scene.empty(), Scene.lively(), Scene.full()}) {
            List<Integer> due = Scene.all(scene.made());
            for (String row : QUESTIONS) {
                String[] words = row.split(" ");
                t.ask(scene, due, words, new int[words.length - 1], 0);
            }
        }
        t.check.end();
    }

    private void ask(Scene scene, List<Integer> due, String[] row, int[] args, int place) {
        if (place == args.length) {
            asked(scene, due, row[0], args);
            return;
        }
        String[] ends = row[place + 1].split("\\.\\.");
        for (int v = Integer.parseInt(ends[0]); v <= Integer.parseInt(ends[1]); v++) {
            args[place] = v;
            ask(scene, due, row, args, place + 1);
        }
    }

    private void asked(Scene scene, List<Integer> due, String name, int[] args) {
        String row = scene.name + " town: " + Calls.show(name, args);
        Subject x = scene.made();
        int before = x.call("status", -1);
        int answer = x.call(name, args);
        boolean finding = answer <= Bench.BEYOND && answer >= Bench.SIZE;
        check.due(row + ", asked again", x.call(name, args), answer);
        check.due(row + ", then status(-1)", x.call("status", -1), before + (finding ? 2 : 0));
        check.holds(row + " changes nothing", Scene.all(x).equals(due));
    }
}
