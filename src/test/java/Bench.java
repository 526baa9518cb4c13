import java.util.Set;
import java.util.TreeSet;

/** What the tests by sentences share: the words of the document that the calls are about, the object, what is due. */
final class Bench {
    static final int BEYOND = -1000001;
    static final int FULL = -1000002;
    static final int KIND = -1000003;
    static final int NONE = -1000004;
    static final int STATE = -1000005;
    static final int MISSING = -1000006;
    static final int SIZE = -1000007;
    static final int MIN = Integer.MIN_VALUE;
    static final int MAX = Integer.MAX_VALUE;

    final Check check = new Check();
    final Document document = new Document();
    private final Set<Integer> quoted = new TreeSet<>();
    private Subject x;
    private String sentence;

    /** From here on a new object is asked about a sentence of a part of the document (0: its terms). */
    void says(int part, String words) {
        check.holds("part " + part + " of the document says '" + words + "'", document.says(part, words));
        quoted.add(part);
        sentence = (part == 0 ? "terms" : "promise " + part) + " '" + words + "': ";
        fresh();
    }

    /** Another object for the same sentence. */
    void fresh() {
        x = new Subject();
    }

    void due(int want, String name, int... args) {
        check.due(sentence + Calls.show(name, args), x.call(name, args), want);
    }

    /** A call that only makes ready: it may not be refused. */
    int make(String name, int... args) {
        int answer = x.call(name, args);
        check.holds(sentence + Calls.show(name, args) + " is not refused, but answered " + answer,
                answer > BEYOND || answer < SIZE);
        return answer;
    }

    void goTo(int month) {
        x.goTo(month);
        due(month, "count", 0);
    }

    void feed(String text) {
        x.feed(text);
    }

    /** THE TAPE has a text alone; it is read. */
    void text(int want, String text) {
        x.call("wipe");
        x.feed(text);
        check.due(sentence + "text() of '" + text + "'", x.call("text"), want);
    }

    /** A text whose FAULT is where the sign ^ stands, which isn't of the text. */
    void fault(String marked) {
        text(-1 - marked.indexOf('^'), marked.replace("^", ""));
    }

    void quotesAll(int first, int last) {
        for (int part = first; part <= last; part++) {
            check.holds("a test quotes part " + part + " of the document", quoted.contains(part));
        }
    }

    static int[] ints(int... all) {
        return all;
    }
}
