import java.util.ArrayList;
import java.util.Arrays;
import java.util.List;
import java.util.function.IntUnaryOperator;

/** A second reading of the document, as plain as can be: objects, copies, and each square on its own. */
final class Oracle {
    static final int BEYOND = -1000001;
    static final int FULL = -1000002;
    static final int KIND = -1000003;
    static final int NONE = -1000004;
    static final int STATE = -1000005;
    static final int MISSING = -1000006;
    static final int SIZE = -1000007;
    private static final String[] NAMES = {"box", "tree", "shed", "poplar", "washing", "house", "tower"};
    private static final int[] ABOVE = {-1, 0, 0, 1, 2, 0, 5};

    static final class Thing {
        int kind;
        int owner;
        int height;
        int paint;

        Thing(int kind, int owner, int height, int paint) {
            this.kind = kind;
            this.owner = owner;
            this.height = height;
            this.paint = paint;
        }
    }

    static final class Win {
        int lot;
        int level;
        int way;
        int tenant;
        int partner = -1;
        int least;
    }

    static final class World {
        Thing[] on = new Thing[25];
        List<Win> wins = new ArrayList<>();
        int[] prices = {1, 2, 3, 4};
        int[] purses = new int[4];
        int[] spots = new int[10];
        int month;
        int z = 1;

        World() {
            Arrays.fill(spots, -1);
        }

        World twin() {
            World w = new World();
            for (int i = 0; i < 25; i++) {
                Thing t = on[i];
                w.on[i] = t == null ? null : new Thing(t.kind, t.owner, t.height, t.paint);
            }
            for (Win v : wins) {
                Win u = new Win();
                u.lot = v.lot;
                u.level = v.level;
                u.way = v.way;
                u.tenant = v.tenant;
                u.partner = v.partner;
                u.least = v.least;
                w.wins.add(u);
            }
            w.prices = prices.clone();
            w.purses = purses.clone();
            w.spots = spots.clone();
            w.month = month;
            w.z = z;
            return w;
        }

        boolean summer() {
            return month % 12 > 2 && month % 12 < 9;
        }

        int stands(int kind, int height) {
            switch (kind) {
                case 0: return height;
                case 1: return Math.min(9, stands(0, height) + (summer() ? 2 : 0));
                case 4: return month % 2 != 0 ? 0 : stands(2, height);
                case 6: return Math.min(9, stands(5, height) + 3);
                default: return stands(ABOVE[kind], height);
            }
        }

        int grows(int kind) {
            switch (kind) {
                case 0: return 0;
                case 1: return month % 4 == 3 ? 1 : 0;
                case 3: return grows(1) == 1 || month % 4 == 1 ? 1 : 0;
                default: return grows(ABOVE[kind]);
            }
        }

        int cost(int kind, int paint) {
            switch (kind) {
                case 0: return prices[paint];
                case 5: return 2 * cost(0, paint);
                case 2: return paint == 0 ? 0 : cost(0, paint);
                case 1: return cost(0, paint) + (summer() ? 1 : 0);
                default: return cost(ABOVE[kind], paint);
            }
        }

        int standing(Thing t) {
            return stands(t.kind, t.height);
        }

        int lotAway(Win w, int k) {
            int row = w.lot / 5 + (w.way == 0 ? -k : w.way == 2 ? k : 0);
            int column = w.lot % 5 + (w.way == 1 ? k : w.way == 3 ? -k : 0);
            return row < 0 || row > 4 || column < 0 || column > 4 ? -1 : 5 * row + column;
        }

        Thing away(Win w, int k) {
            int lot = lotAway(w, k);
            return lot < 0 ? null : on[lot];
        }

        boolean seen(Win w, int k, int j) {
            for (int near = 1; near < k; near++) {
                Thing t = away(w, near);
                if (t != null && !((2 * j - 2 * w.level) * near > (2 * standing(t) - 2 * w.level - 1) * k)) {
                    return false;
                }
            }
            return true;
        }

        int sees(Win w, int k) {
            Thing t = away(w, k);
            int set = 0;
            for (int j = 0; t != null && j < standing(t); j++) {
                set |= seen(w, k, j) ? 1 << j : 0;
            }
            return set;
        }

        int squares(Win w, int owner) {
            int sum = 0;
            for (int k = 1; k <= 4; k++) {
                Thing t = away(w, k);
                if (t != null && (owner < 0 || t.owner == owner)) {
                    sum += Integer.bitCount(sees(w, k));
                }
            }
            return sum;
        }

        int lotsSeen(Win w) {
            int set = 0;
            for (int k = 1; k <= 4; k++) {
                set |= sees(w, k) != 0 ? 1 << lotAway(w, k) : 0;
            }
            return set;
        }

        boolean isBroken(Win w) {
            return w.partner >= 0 && squares(w, w.partner) < w.least;
        }

        int brokenSet() {
            int set = 0;
            for (int i = 0; i < wins.size(); i++) {
                set |= isBroken(wins.get(i)) ? 1 << i : 0;
            }
            return set;
        }

        /** What a window brings an owner: below 0 for its tenant. */
        int brings(Win w, int owner) {
            int sum = 0;
            for (int k = 1; k <= 4; k++) {
                Thing t = away(w, k);
                for (int j = 0; t != null && j < 9; j++) {
                    if ((sees(w, k) >> j & 1) == 1 && t.owner != w.tenant) {
                        sum += t.owner == owner ? cost(t.kind, t.paint) : 0;
                        sum -= w.tenant == owner ? cost(t.kind, t.paint) : 0;
                    }
                }
            }
            return sum;
        }

        int rent(Win w) {
            return -brings(w, w.tenant);
        }

        int rents() {
            int sum = 0;
            for (Win w : wins) {
                sum += rent(w);
            }
            return sum;
        }

        int gain(int owner) {
            int sum = 0;
            for (Win w : wins) {
                sum += brings(w, owner);
            }
            return sum;
        }

        int pass() {
            int paid = rents();
            int[] gains = {gain(0), gain(1), gain(2), gain(3)};
            for (int o = 0; o < 4; o++) {
                purses[o] += gains[o];
            }
            for (Thing t : on) {
                if (t != null) {
                    t.height = Math.min(9, t.height + grows(t.kind));
                }
            }
            month++;
            return paid;
        }

        int pass(int n) {
            int paid = 0;
            for (int i = 0; i < n; i++) {
                paid += pass();
            }
            return paid;
        }

        int things() {
            int n = 0;
            for (Thing t : on) {
                n += t == null ? 0 : 1;
            }
            return n;
        }

        int draw() {
            z = z * 1103515245 + 12345;
            return z >>> 8;
        }
    }

    World w = new World();
    World kept;
    final List<Integer> tape = new ArrayList<>();
    final int[][] sheets = new int[4][];
    final int[] bits = new int[4];
    final int[] told = new int[7];

    int call(String name, int[] a) {
        // Only those that are bound to be findings count: z or a purse may be as low.
        telling = false;
        int answer = answer(name, a);
        if (telling) {
            told[BEYOND - answer]++;
        }
        return answer;
    }

    private boolean telling;

    private int tell(int finding) {
        telling = true;
        return finding;
    }

    private static boolean in(int v, int from, int to) {
        return v >= from && v <= to;
    }

    private boolean isWin(int window) {
        return in(window, 0, w.wins.size() - 1);
    }

    private int answer(String name, int[] a) {
        switch (name) {
            case "build": case "clear": case "of": case "change": case "price":
                return things(name, a);
            case "window": case "windowOf": case "turn": case "contract": case "purse":
                return windows(name, a);
            case "sees": case "view": case "share": case "lots": case "watched": case "rent": case "gain": case "broken":
                return views(name, a);
            case "months": case "ahead": case "breach": case "blame":
                return months(name, a);
            case "paint": case "height": case "storey": case "allowed": case "opens":
                return choosing(name, a);
            case "level": case "cheapest": case "site": case "worst":
                return choosingMore(name, a);
            case "trade": case "swap": case "spill": case "seed":
                return trades(name, a);
            case "feed": case "wipe": case "text":
                return texts(name, a);
            case "hold": case "as": case "sheet": case "write": case "copy": case "load": case "judge":
                return sheets(name, a);
            default:
                return images(name, a);
        }
    }

    private int things(String name, int[] a) {
        if (name.equals("build")) {
            if (!in(a[0], 0, 6) || !in(a[1], 0, 24) || !in(a[2], 0, 3) || !in(a[3], 0, 9)) {
                return tell(BEYOND);
            }
            if (w.on[a[1]] != null) {
                return tell(STATE);
            }
            w.on[a[1]] = new Thing(a[0], a[2], a[3], 0);
            return w.things();
        }
        if (name.equals("price")) {
            if (!in(a[0], 0, 3) || !in(a[1], 0, 99)) {
                return tell(BEYOND);
            }
            int was = w.prices[a[0]];
            w.prices[a[0]] = a[1];
            return was;
        }
        if (!in(a[0], 0, 24) || name.equals("of") && !in(a[1], 0, 6)) {
            return tell(BEYOND);
        }
        if (name.equals("change") && !(in(a[1], 0, 3) && in(a[2], 0, new int[] {6, 3, 9, 3}[a[1]]))) {
            return tell(BEYOND);
        }
        Thing t = w.on[a[0]];
        if (t == null) {
            return tell(NONE);
        }
        if (name.equals("clear")) {
            w.on[a[0]] = null;
            return t.height;
        }
        int[] all = {t.kind, t.owner, t.height, t.paint, w.standing(t), w.cost(t.kind, t.paint), w.grows(t.kind)};
        if (name.equals("change")) {
            int[] now = all.clone();
            now[a[1]] = a[2];
            w.on[a[0]] = new Thing(now[0], now[1], now[2], now[3]);
        }
        return all[a[1]];
    }

    private int windows(String name, int[] a) {
        if (name.equals("purse")) {
            return in(a[0], 0, 3) ? w.purses[a[0]] : tell(BEYOND);
        }
        if (name.equals("window")) {
            if (!in(a[0], 0, 24) || !in(a[1], 0, 9) || !in(a[2], 0, 3) || !in(a[3], 0, 3)) {
                return tell(BEYOND);
            }
            return w.wins.size() == 10 ? tell(FULL) : newWindow(w, a[0], a[1], a[2], a[3]);
        }
        if (!isWin(a[0])) {
            return tell(BEYOND);
        }
        Win v = w.wins.get(a[0]);
        if (name.equals("contract")) {
            if (!in(a[1], -1, 3) || !in(a[2], 0, 36)) {
                return tell(BEYOND);
            }
            v.partner = a[1];
            v.least = a[1] == -1 ? 0 : a[2];
            return w.isBroken(v) ? 1 : 0;
        }
        int[] all = {v.lot, v.level, v.way, v.tenant, v.partner, v.least};
        if (name.equals("turn")) {
            if (!in(a[1], 1, 3) || !in(a[2], 0, a[1] == 1 ? 9 : 3)) {
                return tell(BEYOND);
            }
            v.level = a[1] == 1 ? a[2] : v.level;
            v.way = a[1] == 2 ? a[2] : v.way;
            v.tenant = a[1] == 3 ? a[2] : v.tenant;
        }
        return in(a[1], 0, 5) ? all[a[1]] : tell(BEYOND);
    }

    private static int newWindow(World w, int lot, int level, int way, int tenant) {
        Win v = new Win();
        v.lot = lot;
        v.level = level;
        v.way = way;
        v.tenant = tenant;
        w.wins.add(v);
        return w.wins.size() - 1;
    }

    private int views(String name, int[] a) {
        switch (name) {
            case "broken":
                return w.brokenSet();
            case "gain":
                return in(a[0], 0, 3) ? w.gain(a[0]) : tell(BEYOND);
            case "watched": {
                if (!in(a[0], 0, 24)) {
                    return tell(BEYOND);
                }
                int set = 0;
                for (int i = 0; i < w.wins.size(); i++) {
                    set |= (w.lotsSeen(w.wins.get(i)) >> a[0] & 1) << i;
                }
                return set;
            }
            default:
                break;
        }
        if (!isWin(a[0]) || name.equals("sees") && !in(a[1], 1, 4) || name.equals("share") && !in(a[1], 0, 3)) {
            return tell(BEYOND);
        }
        Win v = w.wins.get(a[0]);
        switch (name) {
            case "sees": return w.sees(v, a[1]);
            case "view": return w.squares(v, -1);
            case "share": return w.squares(v, a[1]);
            case "lots": return w.lotsSeen(v);
            default: return w.rent(v);
        }
    }

    private int months(String name, int[] a) {
        if (name.equals("months")) {
            if (!in(a[0], 1, 60)) {
                return tell(BEYOND);
            }
            return w.month + a[0] > 999 ? tell(STATE) : w.pass(a[0]);
        }
        if (name.equals("ahead")) {
            if (!in(a[0], 0, 120) || !in(a[1], 0, 6)) {
                return tell(BEYOND);
            }
            if (w.month + a[0] > 999) {
                return tell(STATE);
            }
            World then = w.twin();
            int paid = then.pass(a[0]);
            int squares = 0;
            for (Win v : then.wins) {
                squares += then.squares(v, -1);
            }
            return a[1] == 0 ? paid : a[1] == 1 ? then.brokenSet() : a[1] == 2 ? squares : then.purses[a[1] - 3];
        }
        if (!isWin(a[0])) {
            return tell(BEYOND);
        }
        if (w.wins.get(a[0]).partner == -1 || w.month > 879) {
            return tell(STATE);
        }
        World then = w.twin();
        int first = 0;
        while (first <= 120 && !then.isBroken(then.wins.get(a[0]))) {
            then.pass();
            first++;
        }
        if (first > 120 || name.equals("breach")) {
            return first > 120 ? tell(NONE) : first;
        }
        for (int lot = 0; lot < 25; lot++) {
            if (w.on[lot] != null) {
                World without = w.twin();
                without.on[lot] = null;
                without.pass(first);
                if (!without.isBroken(without.wins.get(a[0]))) {
                    return lot;
                }
            }
        }
        return tell(NONE);
    }

    /** The first number from 0 to to that has the greatest value. */
    private static int best(int to, IntUnaryOperator value) {
        int best = 0;
        for (int i = 1; i <= to; i++) {
            if (value.applyAsInt(i) > value.applyAsInt(best)) {
                best = i;
            }
        }
        return best;
    }

    private World with(int lot, int height, int paint) {
        World u = w.twin();
        u.on[lot].height = height;
        u.on[lot].paint = paint;
        return u;
    }

    private int choosing(String name, int[] a) {
        if (!in(a[0], 0, 24) || name.equals("storey") && !in(a[1], 0, 3)) {
            return tell(BEYOND);
        }
        int lot = a[0];
        Thing t = w.on[lot];
        if (t == null) {
            return tell(NONE);
        }
        switch (name) {
            case "paint":
                return best(3, p -> with(lot, t.height, p).gain(t.owner));
            case "height":
                return best(9, h -> with(lot, h, t.paint).gain(t.owner));
            case "storey":
                return t.height == 9 ? tell(STATE) : with(lot, t.height + 1, t.paint).gain(a[1]) - w.gain(a[1]);
            case "allowed": {
                int h = 9;
                int most = Integer.bitCount(with(lot, 0, t.paint).brokenSet());
                while (Integer.bitCount(with(lot, h, t.paint).brokenSet()) > most) {
                    h--;
                }
                return h;
            }
            default: {
                World u = w.twin();
                u.on[lot] = null;
                int set = 0;
                for (int i = 0; i < w.wins.size(); i++) {
                    set |= u.squares(u.wins.get(i), -1) > w.squares(w.wins.get(i), -1) ? 1 << i : 0;
                }
                return set;
            }
        }
    }

    private int choosingMore(String name, int[] a) {
        if (name.equals("level") || name.equals("cheapest")) {
            if (!isWin(a[0])) {
                return tell(BEYOND);
            }
            World u = w.twin();
            Win v = u.wins.get(a[0]);
            if (name.equals("level")) {
                return best(9, l -> {
                    v.level = l;
                    return u.squares(v, -1);
                });
            }
            return best(3, way -> {
                v.way = way;
                return -u.rent(v);
            });
        }
        if (name.equals("worst")) {
            if (!in(a[0], 0, 3)) {
                return tell(BEYOND);
            }
            World u = w.twin();
            return w.month > 988 ? tell(STATE) : best(11, on -> {
                u.month = w.month + on;
                return -u.gain(a[0]);
            });
        }
        if (!in(a[0], 0, 6) || !in(a[1], 0, 3) || !in(a[2], 0, 9)) {
            return tell(BEYOND);
        }
        int lot = best(24, l -> {
            World u = w.twin();
            if (u.on[l] != null) {
                return Integer.MIN_VALUE;
            }
            u.on[l] = new Thing(a[0], a[1], a[2], 0);
            return u.gain(a[1]);
        });
        return w.on[lot] != null ? tell(NONE) : lot;
    }

    private int trades(String name, int[] a) {
        if (name.equals("seed")) {
            int was = w.z;
            w.z = a[0];
            return was;
        }
        if (name.equals("spill")) {
            if (!in(a[0], 1, 12)) {
                return tell(BEYOND);
            }
            List<Thing> all = new ArrayList<>();
            for (Thing t : w.on) {
                if (t != null) {
                    all.add(t);
                }
            }
            for (int i = 0; i < a[0] && !all.isEmpty(); i++) {
                Thing t = all.get(w.draw() % all.size());
                t.paint = w.draw() % 4;
            }
            return all.isEmpty() ? tell(STATE) : w.rents();
        }
        if (name.equals("swap")) {
            if (!in(a[0], 0, 24) || !in(a[1], 0, 24)) {
                return tell(BEYOND);
            }
            World u = w.twin();
            u.on[a[0]] = w.on[a[1]];
            u.on[a[1]] = w.on[a[0]];
            int more = 0;
            for (int o = 0; o < 4; o++) {
                more += u.gain(o) > w.gain(o) ? 1 : u.gain(o) < w.gain(o) ? -1 : 0;
            }
            return w.on[a[0]] == null || w.on[a[1]] == null ? tell(NONE) : more;
        }
        if (!in(a[0], 0, 3) || !in(a[1], 0, 3) || a[0] == a[1]) {
            return tell(BEYOND);
        }
        for (int i = 0; i < 625; i++) {
            Thing one = w.on[i / 25];
            Thing other = w.on[i % 25];
            if (one != null && other != null && one.owner == a[0] && other.owner == a[1]) {
                World u = w.twin();
                u.on[i / 25].height = Math.max(0, one.height - 1);
                u.on[i % 25].height = Math.max(0, other.height - 1);
                if (u.gain(a[0]) > w.gain(a[0]) && u.gain(a[1]) > w.gain(a[1])) {
                    return 100 * (i / 25) + i % 25;
                }
            }
        }
        return tell(NONE);
    }

    private int texts(String name, int[] a) {
        int had = tape.size();
        if (name.equals("feed")) {
            if (!in(a[1], 1, 4)) {
                return tell(BEYOND);
            }
            if (had + a[1] > 120) {
                return tell(FULL);
            }
            byte[] four = {(byte) (a[0] >> 24), (byte) (a[0] >> 16), (byte) (a[0] >> 8), (byte) a[0]};
            for (int i = 4 - a[1]; i < 4; i++) {
                tape.add(four[i] & 255);
            }
            return tape.size();
        }
        StringBuilder text = new StringBuilder();
        for (int b : tape) {
            text.append((char) b);
        }
        tape.clear();
        return name.equals("wipe") ? had : new TextOracle(text.toString()).read();
    }

    /** All tokens first, then a pattern for each item. */
    private final class TextOracle {
        private final List<String> tokens = new ArrayList<>();
        private final List<Integer> places = new ArrayList<>();
        private World u = w.twin();

        TextOracle(String text) {
            java.util.regex.Matcher m = java.util.regex.Pattern.compile("[a-z]+|[0-9]+|;|[^ ]", java.util.regex.Pattern.DOTALL)
                    .matcher(text);
            while (m.find()) {
                tokens.add(m.group());
                places.add(m.start());
            }
            tokens.add("");
            places.add(text.length());
        }

        int read() {
            int items = 0;
            int at = 0;
            while (true) {
                String first = tokens.get(at);
                int kind = Arrays.asList(NAMES).indexOf(first);
                String form = kind >= 0 ? "at F of 3 high 9" : first.equals("window") && u.wins.size() < 10
                        ? "at 24 level 9 way 3 for 3" : first.equals("price") ? "3 99" : first.equals("clear") ? "T" : null;
                if (form == null) {
                    return -1 - places.get(at);
                }
                at++;
                List<Integer> got = new ArrayList<>();
                List<String> want = new ArrayList<>(List.of(form.split(" ")));
                for (int i = 0; i < want.size(); i++) {
                    if (!fits(tokens.get(at), want.get(i), got)) {
                        return -1 - places.get(at);
                    }
                    at++;
                    if (kind >= 0 && i == 5 && tokens.get(at).equals("paint")) {
                        want.add("paint");
                        want.add("3");
                    }
                }
                tellItem(first, kind, got);
                items++;
                if (tokens.get(at).isEmpty()) {
                    w = u;
                    return items;
                }
                if (!tokens.get(at).equals(";")) {
                    return -1 - places.get(at);
                }
                at++;
            }
        }

        private boolean fits(String token, String want, List<Integer> got) {
            if (!want.matches("[0-9FT]+")) {
                return token.equals(want);
            }
            if (!token.matches("[0-9]+") || new java.math.BigInteger(token).bitLength() > 10) {
                return false;
            }
            int v = Integer.parseInt(token.replaceAll("^0+(?=.)", ""));
            got.add(v);
            if (want.equals("F") || want.equals("T")) {
                return v < 25 && (u.on[v] != null) == want.equals("T");
            }
            return v <= Integer.parseInt(want);
        }

        private void tellItem(String first, int kind, List<Integer> got) {
            if (kind >= 0) {
                u.on[got.get(0)] = new Thing(kind, got.get(1), got.get(2), got.size() > 3 ? got.get(3) : 0);
            } else if (first.equals("window")) {
                newWindow(u, got.get(0), got.get(1), got.get(2), got.get(3));
            } else if (first.equals("price")) {
                u.prices[got.get(0)] = got.get(1);
            } else {
                u.on[got.get(0)] = null;
            }
        }
    }

    private int sheets(String name, int[] a) {
        if (name.equals("hold")) {
            if (!in(a[0], 0, 9) || !in(a[1], -1, 24)) {
                return tell(BEYOND);
            }
            w.spots[a[0]] = a[1];
            return 1;
        }
        if (name.equals("as")) {
            if (!in(a[0], 0, 9) || !in(a[1], 0, 6)) {
                return tell(BEYOND);
            }
            int lot = w.spots[a[0]];
            if (lot < 0 || w.on[lot] == null) {
                return tell(MISSING);
            }
            int kind = w.on[lot].kind;
            while (kind >= 0 && kind != a[1]) {
                kind = ABOVE[kind];
            }
            return kind < 0 ? tell(KIND) : lot;
        }
        if (!in(a[0], 0, 3) || name.equals("copy") && !in(a[2], 0, 3)) {
            return tell(BEYOND);
        }
        if (name.equals("sheet")) {
            if (a[1] != 0 && a[1] != 8 && a[1] != 16 && a[1] != 32) {
                return tell(BEYOND);
            }
            if (a[2] < 0 || a[2] > 40) {
                return tell(a[2] < 0 ? SIZE : BEYOND);
            }
            sheets[a[0]] = a[1] == 0 ? null : new int[a[2]];
            bits[a[0]] = a[1];
            return a[1] == 0 ? 0 : a[2];
        }
        int[] s = sheets[a[0]];
        if (s == null || name.equals("copy") && sheets[a[2]] == null) {
            return tell(MISSING);
        }
        if (name.equals("write")) {
            if (!in(a[1], 0, s.length - 1)) {
                return tell(BEYOND);
            }
            s[a[1]] = bits[a[0]] == 8 ? (byte) a[2] : bits[a[0]] == 16 ? (short) a[2] : a[2];
            return 1;
        }
        return sheetsMore(name, a, s);
    }

    private int sheetsMore(String name, int[] a, int[] s) {
        if (name.equals("copy")) {
            if (bits[a[0]] != bits[a[2]]) {
                return tell(KIND);
            }
            int[] t = sheets[a[2]];
            if (a[1] < 0 || a[3] < 0 || a[4] < 0 || (long) a[1] + a[4] > s.length || (long) a[3] + a[4] > t.length) {
                return tell(BEYOND);
            }
            int[] were = s.clone();
            for (int i = 0; i < a[4]; i++) {
                t[a[3] + i] = were[a[1] + i];
            }
            return a[4];
        }
        if (name.equals("load")) {
            if (!in(a[1], 0, 24)) {
                return tell(BEYOND);
            }
            int got = 0;
            for (int i = 0; i < s.length && in(s[i], 0, 9) && a[1] + i < 25; i++) {
                if (w.on[a[1] + i] != null) {
                    w.on[a[1] + i].height = s[i];
                    got++;
                }
            }
            return got;
        }
        if (!isWin(a[1])) {
            return tell(BEYOND);
        }
        int right = 0;
        while (right < Math.min(4, s.length) && s[right] == w.sees(w.wins.get(a[1]), right + 1)) {
            right++;
        }
        return s.length == 4 && right == 4 ? 0 : 1 + right;
    }

    private int images(String name, int[] a) {
        switch (name) {
            case "image":
                kept = w.twin();
                return 1;
            case "undo":
                if (kept == null) {
                    return tell(NONE);
                }
                w = kept.twin();
                return w.month;
            case "tear": {
                int was = kept == null ? 0 : 1;
                kept = null;
                return was;
            }
            case "status":
                return a[0] == -1 ? Arrays.stream(told).sum() : in(a[0], 0, 6) ? told[a[0]] : tell(BEYOND);
            default:
                break;
        }
        if (!in(a[0], 0, 7)) {
            return tell(BEYOND);
        }
        int high = 0;
        for (Thing t : w.on) {
            high += t == null ? 0 : t.height;
        }
        int contracts = (int) w.wins.stream().filter(v -> v.partner >= 0).count();
        int held = (int) Arrays.stream(w.spots).filter(l -> l >= 0).count();
        return new int[] {w.month, w.things(), w.wins.size(), high, contracts, tape.size(), w.z, held}[a[0]];
    }
}
