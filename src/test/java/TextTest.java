import java.util.Arrays;

/** The boundary cases of THE TAPE and of texts: every sentence of the third term, and promises 37 to 39. */
public final class TextTest {
    private static final int BEYOND = Bench.BEYOND;
    private static final int FULL = Bench.FULL;
    private static final int NONE = Bench.NONE;
    private static final int MIN = Bench.MIN;
    private static final int MAX = Bench.MAX;
    private static final String[] WORDS = {"box", "tree", "shed", "poplar", "washing", "house", "tower", "window",
        "price", "clear", "at", "of", "high", "paint", "level", "way", "for"};
    private static final String THING = "box at 3 of 1 high 2 paint 3";
    private static final String WINDOW = "window at 3 level 4 way 2 for 3";
    private static final String PRICE = "price 1 50";
    private static final String CLEAR = "clear 4";

    private final Bench b = new Bench();

    private TextTest() {
    }

    public static void main(String[] args) {
        TextTest t = new TextTest();
        t.tape();
        t.tapesBytes();
        t.tokens();
        t.blanks();
        t.everyByte();
        t.wordsNearBy();
        t.items();
        t.lateTokens();
        t.numbers();
        t.paintPerhaps();
        t.lotsTaken();
        t.eleventhWindow();
        t.windowsAfterUndo();
        t.firstFaultCounts();
        t.endsTooEarly();
        t.longest();
        t.textsAnswer();
        t.nothingChanges();
        t.b.quotesAll(37, 39);
        t.b.check.end();
    }

    private void tape() {
        b.says(0, "A TEXT is read from THE TAPE (bytes, at most 120).");
        for (int n = 1; n <= 4; n++) {
            b.fresh();
            for (int i = n; i <= 120; i += n) {
                b.due(i, "feed", -1, n);
            }
            b.due(FULL, "feed", -1, 1);
            b.due(120, "count", 5);
        }
        b.says(37, "FULL.");
        for (int left = 0; left < 4; left++) {
            b.fresh();
            for (int i = 0; i < 29; i++) {
                b.make("feed", 0, 4);
            }
            for (int i = left; i < 4; i++) {
                b.make("feed", 0, 1);
            }
            for (int n = 4; n > left; n--) {
                b.due(FULL, "feed", 0, n);
                b.due(120 - left, "count", 5);
            }
            if (left > 0) {
                b.due(120, "feed", 0, left);
            }
        }
        // Beyond is asked first.
        b.says(37, "(n 1 to 4): how many it has. BEYOND: n. FULL.");
        for (int i = 1; i <= 30; i++) {
            b.due(4 * i, "feed", 0, 4);
        }
        for (int n : Bench.ints(0, 5, -1, MIN, MAX)) {
            b.due(BEYOND, "feed", 0, n);
        }
        b.due(120, "wipe");
        for (int n : Bench.ints(0, 5, -1, MIN, MAX)) {
            b.due(BEYOND, "feed", 0, n);
        }
        b.due(1, "feed", 0, 1);
        b.due(5, "feed", 0, 4);
        b.says(38, "THE TAPE is empty: how many it had.");
        b.due(0, "wipe");
        b.make("feed", 0, 1);
        b.due(1, "wipe");
        b.due(0, "wipe");
        b.due(0, "count", 5);
    }

    private void tapesBytes() {
        b.says(37, "THE TAPE gets the n lowest bytes of a number behind it, the highest of these first");
        // What stands above the n lowest bytes isn't fed: each number has bytes there that would be a fault.
        b.due(1, "feed", 0xffffff63, 1);
        b.due(3, "feed", 0x80006c65, 2);
        b.due(6, "feed", 0xff617220, 3);
        b.due(10, "feed", 0x20203234, 4);
        b.make("build", 0, 24, 0, 0);
        b.due(1, "text");
        b.due(NONE, "of", 24, 0);
        // Any int: the least, the greatest, and those of all bytes alike.
        for (int bytes : Bench.ints(MIN, MAX, 0, -1)) {
            for (int n = 1; n <= 4; n++) {
                b.due(n, "feed", bytes, n);
                b.due(-1, "text");
                b.due(0, "count", 5);
            }
        }
    }

    private void tokens() {
        b.says(0, "TOKENS, each as long as can be: WORDS (letters a to z), NUMBERS (digits, 999 at most), SIGN ;");
        b.text(1, "box at24of3high9paint1");
        b.text(2, "clear24;price3 0");
        b.text(2, "price0 0;price0 1");
        b.text(1, "price00 1");
        b.text(1, "price 1 050");
        b.due(50, "price", 1, 2);
        b.fault("^boxat 3 of 0 high 1");
        b.fault("^bo x at 3 of 0 high 1");
        b.fault("box ^atof 3");
        b.fault("box ^a t3of 0 high 1");
        b.fault("box at 1 ^2 of 0 high 1");
        b.fault("box at ^12345 of 0 high 1");
        b.fault("price 00^");
        b.fault("price 1 1 ^0");
        // A sign ends a word and a number, and needs no blanks.
        b.fault("price 1 10;^;price 1 1");
        b.fault("^; ;");
        b.fault("box^;");
        b.fault("box at ^;");
        b.fault("box at 3^;");
    }

    private void blanks() {
        b.says(0, "blanks may stand between");
        b.text(1, "box   at   3   of   0   high   1");
        b.text(2, "   clear 3   ;   price  1  9   ");
        b.fault("^");
        b.fault("   ^");
        b.fault("   ^3 ");
        b.fault("box  at  3  of  ^4  high  1");
        b.fault("  box  at  3  of  3  high  1  ;  ^");
    }

    /** What a single byte tells alone, behind a whole item, and between two tokens. */
    private void everyByte() {
        b.says(0, "a byte that begins no TOKEN");
        for (int c = 0; c < 256; c++) {
            char sign = (char) c;
            boolean letter = c >= 97 && c <= 122;
            boolean digit = c >= 49 && c <= 57;
            boolean fits = c == 32 || c == 48;
            b.fresh();
            b.text(c == 32 ? -2 : -1, String.valueOf(sign));
            b.make("build", 0, 0, 0, 0);
            b.text(fits ? 1 : c == 59 ? -9 : digit ? -7 : -8, "clear 0" + sign);
            b.due(fits ? 0 : 1, "count", 1);
            b.fresh();
            b.make("build", 0, 3, 0, 0);
            b.text(fits ? 1 : letter ? -1 : -6, "clear" + sign + "3");
            b.due(fits ? 0 : 1, "count", 1);
            b.due(0, "status", -1);
        }
    }

    /** A word with one letter less, more or changed, or in capitals, is another word, wherever it stands. */
    private void wordsNearBy() {
        b.says(0, "another WORD");
        for (int kind = 0; kind < 7; kind++) {
            nearBy(WORDS[kind] + THING.substring(3));
        }
        nearBy(WINDOW);
        nearBy(PRICE);
        nearBy(CLEAR);
    }

    private void nearBy(String item) {
        String[] tokens = item.split(" ");
        for (int i = 0; i < tokens.length; i++) {
            String word = tokens[i];
            if (word.matches("[a-z]+")) {
                int last = word.length() - 1;
                String before = prefix(item, i) + (i == 0 ? "" : " ");
                for (String other : new String[] {word + "s", "a" + word, word.substring(1), word.substring(0, last),
                    word.substring(0, last) + "q", "q" + word.substring(1), word + word, word.toUpperCase()}) {
                    told(-1 - before.length(), before + other + " 3");
                }
            }
        }
    }

    private static boolean isWhole(String item, int tokens) {
        int all = item.split(" ").length;
        return tokens == all || item.equals(THING) && tokens == all - 2;
    }

    private static String prefix(String item, int tokens) {
        return String.join(" ", Arrays.copyOf(item.split(" "), tokens));
    }

    /** Each item cut off behind each of its tokens, and with each wrong token in each place. */
    private void items() {
        for (String item : new String[] {THING, WINDOW, PRICE, CLEAR}) {
            int all = item.split(" ").length;
            for (int tokens = 0; tokens <= all; tokens++) {
                b.says(0, "or how many bytes there are if it ends too early");
                String text = prefix(item, tokens);
                boolean whole = isWhole(item, tokens);
                told(whole ? 1 : -1 - text.length(), text);
                told(whole ? 1 : -4 - text.length(), text + "   ");
                told(whole ? -2 - text.length() : -1 - text.length(), text + ";");
                wrongTokens(item, tokens, text.isEmpty() ? "" : text + " ");
            }
        }
    }

    private void wrongTokens(String item, int place, String before) {
        String[] tokens = item.split(" ");
        String due = place < tokens.length ? tokens[place] : "";
        b.says(0, "the place (from 0) of the first byte of the first TOKEN that can't stand there");
        for (String word : WORDS) {
            boolean fits = word.equals(due) || place == 0 && !word.matches("at|of|high|paint|level|way|for");
            if (!fits) {
                told(-1 - before.length(), before + word);
                told(-1 - before.length(), before + word + " 3 ? ;");
            }
        }
        for (String other : new String[] {"other", "1000", "?", "A", "-1"}) {
            told(-1 - before.length(), before + other);
        }
        if (!due.matches("\\d+")) {
            told(-1 - before.length(), before + "0");
        }
    }

    /** On a new object on whose lot 4 something stands. */
    private void told(int want, String text) {
        b.fresh();
        b.make("build", 0, 4, 0, 0);
        b.text(want, text);
        b.due(0, "count", 5);
        b.due(0, "status", -1);
        if (want < 0) {
            b.due(1, "count", 1);
            b.due(0, "count", 2);
            b.due(2, "price", 1, 2);
        }
    }

    /** The same faults in a second and a third item, counted from the tape's begin. */
    private void lateTokens() {
        b.says(0, "TEXT: ITEM { ; ITEM }.");
        String two = "price 2 7;price 3 8;";
        for (String item : new String[] {THING, WINDOW, PRICE, CLEAR}) {
            int all = item.split(" ").length;
            for (int tokens = 0; tokens <= all; tokens++) {
                String text = two + prefix(item, tokens);
                boolean whole = isWhole(item, tokens);
                told(whole ? 3 : -1 - text.length(), text);
                told(-2 - text.length(), text + " other");
                told(-2 - text.length(), text + " ?");
            }
        }
        told(-11, "price 2 7 price 3 8");
        told(-11, "price 2 7;;price 3 8");
        told(-1, ";price 2 7");
    }

    /** A number's place in a text, told by #: all that are allowed, with zeros ahead too, as the call then answers. */
    private void allowed(String text, int last, String name, int... args) {
        for (int v = 0; v <= last; v++) {
            for (String zeros : new String[] {"", "0", "0000000000"}) {
                b.fresh();
                b.text(1, text.replace("#", zeros + v));
                b.due(v, name, args);
            }
        }
    }

    /** The first that isn't allowed, and others far beyond: also those that would be small if they wrapped around. */
    private void notAllowed(String text, int last) {
        int place = text.indexOf('#');
        for (String wrong : new String[] {String.valueOf(last + 1), "0" + (last + 1), "100", "256", "999", "1000", "1024",
            "65536", "2147483647", "2147483648", "4294967296", "4294967297", "18446744073709551617", "9".repeat(60),
            "a", ";", "-1", "+1", "?"}) {
            b.fresh();
            b.text(-1 - place, text.replace("#", wrong));
            b.due(0, "count", 1);
            b.due(0, "count", 2);
            b.due(0, "status", -1);
        }
    }

    private void limits(String text, int last, String name, int... args) {
        allowed(text, last, name, args);
        notAllowed(text, last);
    }

    private void numbers() {
        b.says(0, "of, a NUMBER (0 to 3), high, a NUMBER (0 to 9), perhaps paint and a NUMBER (0 to 3)");
        limits("tree at 7 of # high 2", 3, "of", 7, 1);
        limits("tree at 7 of 1 high #", 9, "of", 7, 2);
        limits("tree at 7 of 1 high 0 paint #", 3, "of", 7, 3);
        b.says(0, "window, at, a NUMBER (0 to 24), level, a NUMBER (0 to 9), way, a NUMBER (0 to 3), for, a NUMBER (0 to 3)");
        limits("window at # level 1 way 1 for 1", 24, "windowOf", 0, 0);
        limits("window at 1 level # way 1 for 1", 9, "windowOf", 0, 1);
        limits("window at 1 level 1 way # for 1", 3, "windowOf", 0, 2);
        limits("window at 1 level 1 way 1 for #", 3, "windowOf", 0, 3);
        b.says(0, "price, a NUMBER (0 to 3: PAINT), a NUMBER (0 to 99)");
        limits("price 2 #", 99, "price", 2, 0);
        notAllowed("price # 9", 3);
        for (int paint = 0; paint < 4; paint++) {
            b.text(1, "price " + paint + " " + (96 + paint));
        }
        for (int paint = 0; paint < 4; paint++) {
            b.due(96 + paint, "price", paint, 0);
        }
        b.says(0, "NUMBERS (digits, 999 at most)");
        b.text(-9, "price 2 999");
        b.text(-9, "price 2 1000");
    }

    private void paintPerhaps() {
        b.says(0, "perhaps paint and a NUMBER (0 to 3)");
        b.text(1, "box at 3 of 0 high 1 paint 3");
        b.due(3, "of", 3, 3);
        b.text(3, "clear 3;box at 3 of 0 high 1;box at 4 of 0 high 1 paint 0");
        b.due(0, "of", 3, 3);
        b.due(0, "of", 4, 3);
        b.fault("box at 5 of 0 high 1 ^painted 3");
        b.fault("box at 5 of 0 high 1 paint 3 ^paint 3");
        b.due(2, "count", 1);
    }

    private void lotsTaken() {
        b.says(0, "at, a NUMBER (a LOT on which nothing stands)");
        notAllowed("box at # of 0 high 0", 24);
        for (int lot = 0; lot < 25; lot++) {
            b.fresh();
            b.text(1, "house at " + lot + " of 2 high 5");
            b.due(5, "of", lot, 0);
            b.due(1, "count", 1);
            b.fault("house at ^" + lot + " of 2 high 5");
            b.fault("price 0 1;price 0 2; box at ^" + lot + " of 2 high 5");
            b.due(1, "price", 0, 1);
        }
        b.says(0, "clear and a NUMBER (a LOT on which something stands): it is taken off.");
        notAllowed("clear #", 24);
        for (int lot = 0; lot < 25; lot++) {
            b.fresh();
            b.fault("clear ^" + lot);
            b.make("build", 0, lot, 3, 9);
            b.text(1, "clear " + lot);
            b.due(NONE, "of", lot, 0);
            b.fault("clear ^" + lot);
        }
        // What counts is what stands there by the items ahead.
        b.fresh();
        b.text(4, "box at 3 of 0 high 1;clear 3;tower at 3 of 1 high 2;clear 3");
        b.due(0, "count", 1);
        b.fault("box at 3 of 0 high 1;box at ^3 of 0 high 1");
        b.fault("box at 3 of 0 high 1;clear 3;clear ^3");
        b.due(0, "count", 1);
    }

    private void eleventhWindow() {
        b.says(0, "the WORD of an 11th WINDOW: its own");
        String window = "window at 0 level 0 way 0 for 0";
        for (int w = 0; w < 8; w++) {
            b.text(1, window);
        }
        b.text(2, window + ";" + window);
        b.due(10, "count", 2);
        b.fault("^" + window);
        b.fault("   ^window");
        b.fault("price 2 9;^window at ?");
        b.due(3, "price", 2, 3);
        b.text(1, "price 2 9");
        b.due(10, "count", 2);
        b.due(FULL, "window", 0, 0, 0, 0);
        b.fresh();
        for (int w = 0; w < 9; w++) {
            b.make("window", 24, 0, 0, 0);
        }
        b.fault(window + ";^" + window);
        b.due(9, "count", 2);
        b.fault("window ^?");
        b.text(1, window);
        b.due(0, "windowOf", 9, 0);
        b.fault("^window ?");
    }

    /** A window that comes by a text has no contract, whatever a window of that number had. */
    private void windowsAfterUndo() {
        b.says(0, "for, a NUMBER (0 to 3): a new WINDOW");
        b.make("image");
        b.make("window", 0, 0, 0, 0);
        b.make("contract", 0, 3, 36);
        b.make("undo");
        b.text(1, "window at 24 level 9 way 3 for 3");
        int[] is = {24, 9, 3, 3, -1, 0};
        for (int what = 0; what < 6; what++) {
            b.due(is[what], "windowOf", 0, what);
        }
        b.due(0, "broken");
    }

    private void firstFaultCounts() {
        b.says(0, "the place (from 0) of the first byte of the first TOKEN that can't stand there");
        b.fault("box at ^25 of 4 high 10 paint 4");
        b.fault("box at 24 of ^4 high 10 paint 4");
        b.fault("box at 24 of 3 high ^10 paint 4");
        b.fault("box at 24 of 3 high 9 paint ^4");
        b.text(1, "box at 24 of 3 high 9 paint 3");
        b.fault("^? ; ? ; box");
        b.fault("clear ^23;box at 25");
        // A fault ahead of the eleventh window, and one behind it.
        for (int w = 0; w < 10; w++) {
            b.make("window", 0, 0, 0, 0);
        }
        b.fault("price ^4 0;window");
        b.fault("price 3 0;^window;price 4 0");
    }

    private void endsTooEarly() {
        b.says(0, "or how many bytes there are if it ends too early");
        b.fault("^");
        b.fault("box^");
        b.fault("price 2 7;^");
        b.fault("price 2 7;  ^");
        String blanks = " ".repeat(119);
        b.fault(blanks + "^");
        b.fault(blanks + " ^");
        b.fault("box" + blanks.substring(2) + "^");
        b.fault(blanks + "^3");
    }

    private void longest() {
        b.says(0, "A TEXT is read from THE TAPE (bytes, at most 120).");
        String item = "box at 3 of 0 high 1 paint 2";
        String text = " ".repeat(120 - item.length()) + item;
        b.text(1, text);
        b.due(2, "of", 3, 3);
        // The last byte counts: a digit there makes another number.
        b.fault(" ".repeat(112) + "clear ^43");
        b.text(1, " ".repeat(113) + "clear 3");
        b.due(0, "count", 1);
        // Sixteen items: ten clears of 6 bytes, six of 7, the signs between, and three blanks.
        b.fresh();
        StringBuilder many = new StringBuilder();
        for (int lot = 0; lot < 16; lot++) {
            b.make("build", 0, lot, 0, 0);
            many.append(lot == 0 ? "" : ";").append("clear").append(lot);
        }
        b.check.due("bytes of the text of 16 items", many.length(), 117);
        b.text(16, many + "   ");
        b.due(0, "count", 1);
    }

    private void textsAnswer() {
        b.says(39, "all that it tells is so, item by item: how many ITEMS.");
        b.text(1, "price 0 5");
        b.text(2, "price 0 6;price 0 7");
        b.due(7, "price", 0, 1);
        for (int kind = 0; kind < 7; kind++) {
            b.text(1, WORDS[kind] + " at " + 3 * kind + " of " + kind % 4 + " high " + kind);
            int[] is = {kind, kind % 4, kind, 0};
            for (int what = 0; what < 4; what++) {
                b.due(is[what], "of", 3 * kind, what);
            }
        }
        b.due(7, "count", 1);
        b.says(39, "THE TAPE is a TEXT, and empty then");
        b.feed("price 0 5");
        b.due(9, "count", 5);
        b.due(1, "text");
        b.due(0, "count", 5);
        b.due(-1, "text");
        b.due(5, "price", 0, 1);
        // A text leaves purses, the month, z, spots, contracts and what is kept as they are.
        b.make("window", 0, 0, 2, 1);
        b.make("contract", 0, 2, 7);
        b.make("hold", 4, 5);
        b.make("seed", 99);
        b.make("image");
        b.make("months", 3);
        b.text(2, "box at 5 of 2 high 6;window at 0 level 0 way 2 for 3");
        b.due(3, "count", 0);
        b.due(99, "count", 6);
        b.due(5, "as", 4, 0);
        b.due(1, "count", 4);
        b.due(7, "windowOf", 0, 5);
        b.due(12, "months", 1);
        b.due(0, "undo");
        b.due(0, "count", 1);
        b.due(1, "count", 2);
    }

    private void nothingChanges() {
        b.says(39, "With a FAULT: -1 less the FAULT (nothing changes but that THE TAPE is empty; no finding).");
        b.make("build", 1, 7, 2, 5);
        b.make("window", 0, 0, 0, 0);
        b.fault("clear 7;price 1 99;box at 7 of 0 high 0;window at 3 level 0 way 0 for 0; ^");
        b.due(0, "count", 5);
        int[] is = {1, 2, 5, 0};
        for (int what = 0; what < 4; what++) {
            b.due(is[what], "of", 7, what);
        }
        b.due(2, "price", 1, 2);
        b.due(1, "count", 1);
        b.due(1, "count", 2);
        b.due(1, "count", 6);
        b.due(0, "status", -1);
        b.due(-1, "text");
        b.due(0, "status", -1);
    }
}
