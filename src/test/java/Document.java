import java.io.IOException;
import java.nio.file.Files;
import java.nio.file.Path;
import java.util.Set;
import java.util.TreeSet;
import java.util.regex.Matcher;
import java.util.regex.Pattern;

/** The document: tests quote it, and what they quote is looked up. Part 0 is its terms, parts 1 to 51 its promises. */
final class Document {
    static final int PROMISES = 51;
    private static final Path PLACE = Path.of("../shared/DOC.md");
    /** A finding begins a sentence, and has a stop, a colon, or one of two asides behind it; else the word is a term. */
    private static final Pattern FINDING =
            Pattern.compile("(?<=\\. )(BEYOND|FULL|KIND|NONE|STATE|MISSING|SIZE)(?=[.:]| likewise| \\(counted)");

    private final String[] parts = new String[PROMISES + 1];
    private final String[] titles = new String[PROMISES + 1];

    Document() {
        if (!isThere()) {
            System.out.println(PLACE + " isn't there: what tests quote isn't looked up");
            return;
        }
        String text;
        try {
            text = Files.readString(PLACE);
        } catch (IOException e) {
            throw new IllegalStateException(e);
        }
        for (String section : text.split("(?m)^## ")) {
            int end = Math.max(0, section.indexOf('\n'));
            String title = section.substring(0, end).trim();
            if (title.equals("Terms")) {
                parts[0] = plain(section.substring(end));
            } else if (title.matches("Promise \\d+: .*")) {
                int number = Integer.parseInt(title.replaceAll("Promise (\\d+): .*", "$1"));
                titles[number] = title.replaceAll("Promise \\d+: ", "");
                parts[number] = plain(section.substring(end));
            }
        }
    }

    static boolean isThere() {
        return Files.exists(PLACE);
    }

    private static String plain(String text) {
        return text.replace("```text", " ").replace("```", " ").replaceAll("\\s+", " ");
    }

    boolean says(int part, String words) {
        return !isThere() || parts[part] != null && parts[part].contains(words);
    }

    /** The call's name, or that of promise 1. */
    String title(int promise) {
        return titles[promise];
    }

    Set<String> findings(int promise) {
        Set<String> all = new TreeSet<>();
        Matcher m = FINDING.matcher(parts[promise]);
        while (m.find()) {
            all.add(m.group(1));
        }
        return all;
    }
}
