import java.nio.file.Files;
import java.nio.file.Path;
import java.util.TreeSet;
import java.util.regex.Matcher;
import java.util.regex.Pattern;

/** What README.md tells is so: its example's answers, its table of findings, its list of calls. */
public final class ReadmeTest {
    private static final Pattern CALL = Pattern.compile("(?m)^town\\.(\\w+)\\(([-\\d, ]*)\\); +// (-?\\d+): ");
    private static final Pattern ROW = Pattern.compile("(?m)^\\| ([A-Z]+) +\\| (-\\d+) +\\| (\\d) +\\|");
    private static final String[] FINDINGS = {"BEYOND", "FULL", "KIND", "NONE", "STATE", "MISSING", "SIZE"};
    private static final int LOW = -1000001;
    private static final Check CHECK = new Check();

    public static void main(String[] args) throws Exception {
        String text = Files.readString(Path.of("README.md"));
        example(part(text, "```java\n", "```"));
        findings(part(text, "## Findings\n", "\n## "));
        calls(part(text, "## The calls\n", "\n## "));
        CHECK.end();
    }

    private static String part(String text, String from, String to) {
        int begin = text.indexOf(from);
        CHECK.holds("README.md has a part that begins with " + from.trim(), begin >= 0);
        if (begin < 0) {
            return "";
        }
        int end = text.indexOf(to, begin + from.length());
        return text.substring(begin + from.length(), end < 0 ? text.length() : end);
    }

    /** Its first line makes the object; each other line is a call with its answer. */
    private static void example(String code) {
        CHECK.holds("the example makes an object", code.startsWith("WindowViews town = new WindowViews();\n"));
        Subject x = new Subject();
        int found = 0;
        Matcher m = CALL.matcher(code);
        while (m.find()) {
            int[] ints = ints(m.group(2));
            CHECK.due(Calls.show(m.group(1), ints), x.call(m.group(1), ints), Integer.parseInt(m.group(3)));
            found++;
        }
        CHECK.due("calls of the example with an answer", found, code.lines().count() - 1);
    }

    private static int[] ints(String list) {
        if (list.isEmpty()) {
            return new int[0];
        }
        String[] each = list.split(", ");
        int[] all = new int[each.length];
        for (int i = 0; i < each.length; i++) {
            all[i] = Integer.parseInt(each[i]);
        }
        return all;
    }

    private static void findings(String table) {
        int found = 0;
        Matcher m = ROW.matcher(table);
        while (m.find() && found < FINDINGS.length) {
            CHECK.holds(m.group(1) + " stands in its row", m.group(1).equals(FINDINGS[found]));
            CHECK.due(m.group(1), Integer.parseInt(m.group(2)), LOW - found);
            CHECK.due("status of " + m.group(1), Integer.parseInt(m.group(3)), found);
            found++;
        }
        CHECK.due("findings told", found, FINDINGS.length);
    }

    private static void calls(String list) {
        TreeSet<String> want = new TreeSet<>();
        for (String row : FaceTest.FACE) {
            want.add(row.substring(0, row.indexOf(' ')));
        }
        TreeSet<String> got = new TreeSet<>();
        Matcher m = Pattern.compile("`(\\w+)`").matcher(list);
        while (m.find()) {
            got.add(m.group(1));
        }
        CHECK.holds("the calls are the document's: " + got, got.equals(want));
    }
}
