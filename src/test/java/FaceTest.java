import java.lang.reflect.Constructor;
import java.lang.reflect.Field;
import java.lang.reflect.Method;
import java.lang.reflect.Modifier;
import java.nio.file.Files;
import java.nio.file.Path;
import java.util.ArrayList;
import java.util.List;
import java.util.Map;
import java.util.TreeMap;
import java.util.TreeSet;
import java.util.regex.Matcher;
import java.util.regex.Pattern;

/** The public face is the document's and no more, and the source keeps to the words that LANGUAGE.md leaves. */
public final class FaceTest {
    static final String[] FACE = {
        "build 4", "clear 1", "of 2", "change 3", "price 2", "window 4", "windowOf 2", "turn 3", "contract 3",
        "purse 1", "sees 2", "view 1", "share 2", "lots 1", "watched 1", "rent 1", "gain 1", "broken 0",
        "months 1", "ahead 2", "breach 1", "blame 1", "paint 1", "height 1", "storey 2", "allowed 1", "opens 1",
        "level 1", "cheapest 1", "site 3", "worst 1", "trade 2", "swap 2", "spill 1", "seed 1", "feed 2", "wipe 0",
        "text 0", "hold 2", "as 2", "sheet 3", "write 3", "copy 5", "load 2", "judge 2", "image 0", "undo 0",
        "tear 0", "count 1", "status 1",
    };

    private static final Check CHECK = new Check();

    public static void main(String[] args) throws Exception {
        Class<?> face = WindowViews.class;
        CHECK.holds("the class is public and final",
                Modifier.isPublic(face.getModifiers()) && Modifier.isFinal(face.getModifiers()));
        members(face);
        names(face);
        String text = Files.readString(Path.of("src/main/java/WindowViews.java"));
        source(text);
        methods(text);
        CHECK.end();
    }

    private static String code(String text) {
        return text.replaceAll("(?s)/\\*.*?\\*/", " ").replaceAll("//[^\n]*", " ").replaceAll("\"[^\"\n]*\"", "\"\"");
    }

    /** Methods stay short, none calls itself, and calls go at most eight deep (one more is left for the library's own). */
    private static void methods(String text) {
        Map<String, String> bodies = new TreeMap<>();
        Matcher m = Pattern.compile("(?m)^( +)(?:public|private)[\\w\\[\\] ]* (\\w+)\\([^)]*\\) \\{\\n").matcher(code(text));
        while (m.find()) {
            int end = code(text).indexOf("\n" + m.group(1) + "}\n", m.end() - 1);
            String body = code(text).substring(m.end() - 1, end + 1);
            CHECK.holds(m.group(2) + " has a name of its own in the file", bodies.put(m.group(2), body) == null);
            CHECK.holds(m.group(2) + " is short", body.lines().count() <= 60);
        }
        for (String row : FACE) {
            String name = row.substring(0, row.indexOf(' '));
            CHECK.holds("the source of " + name + " is found", bodies.containsKey(name));
        }
        for (String name : bodies.keySet()) {
            int deep = depth(name, bodies, 0);
            CHECK.holds(name + " goes at most seven deep in the file, not " + deep, deep <= 7);
        }
    }

    private static int depth(String name, Map<String, String> bodies, int above) {
        int deepest = 0;
        Matcher m = Pattern.compile("(?<!Math\\.|Integer\\.|System\\.)\\b(\\w+)\\(").matcher(bodies.get(name));
        while (m.find() && above < 20) {
            if (bodies.containsKey(m.group(1))) {
                deepest = Math.max(deepest, depth(m.group(1), bodies, above + 1));
            }
        }
        return 1 + deepest;
    }

    private static void members(Class<?> face) {
        TreeSet<String> want = new TreeSet<>(List.of(FACE));
        TreeSet<String> got = new TreeSet<>();
        for (Method m : face.getDeclaredMethods()) {
            if (Modifier.isPrivate(m.getModifiers())) {
                continue;
            }
            got.add(m.getName() + " " + m.getParameterCount());
            CHECK.holds(m + " is public, of ints", Modifier.isPublic(m.getModifiers()) && m.getReturnType() == int.class);
            for (Class<?> p : m.getParameterTypes()) {
                CHECK.holds(m + " takes ints", p == int.class);
            }
        }
        CHECK.holds("the methods are the document's: " + got, got.equals(want));
        Constructor<?>[] made = face.getDeclaredConstructors();
        CHECK.holds("one constructor, public, without arguments",
                made.length == 1 && made[0].getParameterCount() == 0 && Modifier.isPublic(made[0].getModifiers()));
        for (Field f : face.getDeclaredFields()) {
            CHECK.holds(f + " is private", Modifier.isPrivate(f.getModifiers()));
        }
    }

    private static void names(Class<?> face) {
        TreeSet<String> open = new TreeSet<>();
        for (String row : FACE) {
            open.add(row.substring(0, row.indexOf(' ')));
        }
        List<Class<?>> all = new ArrayList<>(List.of(face.getDeclaredClasses()));
        CHECK.holds("at most twelve classes", all.size() < 12);
        fields(face);
        for (Class<?> inside : all) {
            fields(inside);
            CHECK.holds(inside + " is static and not public",
                    Modifier.isStatic(inside.getModifiers()) && !Modifier.isPublic(inside.getModifiers()));
            for (Method m : inside.getDeclaredMethods()) {
                CHECK.holds(m + " bears a name of its own", !open.contains(m.getName()));
            }
        }
        for (Method m : face.getDeclaredMethods()) {
            CHECK.holds(m + " takes at most seven", m.getParameterCount() <= 7);
            CHECK.holds(m + " bears a name of its own",
                    !Modifier.isPrivate(m.getModifiers()) || !open.contains(m.getName()));
        }
    }

    /** A static field is a constant int here; the others are at most some twenty. */
    private static void fields(Class<?> one) {
        int own = 0;
        for (Field f : one.getDeclaredFields()) {
            boolean still = Modifier.isStatic(f.getModifiers());
            CHECK.holds(f + " is a constant", !still || Modifier.isFinal(f.getModifiers()) && f.getType() == int.class);
            own += still ? 0 : 1;
        }
        CHECK.holds(one + " has at most twenty fields, not " + own, own <= 20);
    }

    /** Every name with a great letter is a constant, a class of the file, or of the library that is left. */
    private static void library(String code) {
        TreeSet<String> left = new TreeSet<>(List.of("String", "Math", "Integer", "System", "WindowViews"));
        for (Class<?> inside : WindowViews.class.getDeclaredClasses()) {
            left.add(inside.getSimpleName());
        }
        Matcher m = Pattern.compile("\\b[A-Z]\\w*[a-z]\\w*").matcher(code);
        while (m.find()) {
            CHECK.holds(m.group() + " is left by LANGUAGE.md", left.contains(m.group()));
        }
        TreeSet<String> calls = new TreeSet<>(List.of("Math.min", "Math.max", "Math.floorDiv", "Integer.bitCount",
                "Integer.compare", "System.arraycopy"));
        m = Pattern.compile("\\b(?:Math|Integer|System)\\.\\w+").matcher(code);
        while (m.find()) {
            CHECK.holds(m.group() + " is among the calls that were held against LANGUAGE.md", calls.contains(m.group()));
        }
    }

    private static void source(String text) {
        String code = code(text);
        for (String word : new String[] {"throw", "throws", "try", "catch", "finally", "synchronized", "assert",
                "import", "package", "protected", "Object", "Random", "Thread", "float", "double", "equals", "hashCode",
                "toString"}) {
            CHECK.holds("no " + word + " in the source", !code.matches("(?s).*\\b" + word + "\\b.*"));
        }
        library(code);
        CHECK.holds("no lambda or method reference", !code.contains("->") && !code.contains("::"));
        CHECK.holds("only signs 1 to 127", text.chars().allMatch(c -> c >= 1 && c <= 127));
    }
}
