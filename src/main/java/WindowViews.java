/** A town of lots, the windows that look over it, and what their tenants pay for what they see. */
public final class WindowViews {
    private static final int LOW = -1000001;
    private static final int BEYOND = 0;
    private static final int FULL = 1;
    private static final int OTHER_KIND = 2;
    private static final int NONE = 3;
    private static final int STATE = 4;
    private static final int MISSING = 5;
    private static final int SIZE = 6;
    private static final int FINDINGS = 7;

    private static final int SIDE = 5;
    private static final int LOTS = 25;
    private static final int WAYS = 4;
    private static final int FARTHEST = 4;
    private static final int OWNERS = 4;
    private static final int KINDS = 7;
    private static final int HEIGHTS = 10;
    private static final int HIGHEST = 9;
    private static final int PAINTS = 4;
    private static final int PRICES = 100;
    private static final int WINDOWS = 10;
    private static final int LEVELS = 10;
    private static final int MOST_LEAST = 36;
    private static final int LAST_MONTH = 999;
    private static final int MOST_MONTHS = 60;
    private static final int MOST_AHEAD = 120;
    private static final int YEAR = 12;
    private static final int MOST_SPILLS = 12;
    private static final int TAPE_BYTES = 120;
    private static final int SPOTS = 10;
    private static final int SHEETS = 4;
    private static final int SHEET_NUMBERS = 40;

    private static final int BOX = 0;
    private static final int TREE = 1;
    private static final int SHED = 2;
    private static final int POPLAR = 3;
    private static final int WASHING = 4;
    private static final int HOUSE = 5;
    private static final int TOWER = 6;

    /** Rows of Town.things; the numbers are those of of() and change(). */
    private static final int KIND = 0;
    private static final int OWNER = 1;
    private static final int HEIGHT = 2;
    private static final int PAINT = 3;
    private static final int THING_ROWS = 4;

    /** Rows of Town.windows; the numbers are those of windowOf() and turn(). */
    private static final int LOT = 0;
    private static final int LEVEL = 1;
    private static final int WAY = 2;
    private static final int TENANT = 3;
    private static final int PARTNER = 4;
    private static final int LEAST = 5;
    private static final int WINDOW_ROWS = 6;

    private final Town town;
    private final Town kept;
    private final Town trial;
    private final Glance glance;
    private final Tape tape;
    private final Sheets sheets;
    private final int[] told;
    private final int[] gainsBefore;
    private final int[] gainsAfter;
    /** Takes what pay() moves where only its answer is wanted. */
    private final int[] spareRow;
    private boolean imageKept;

    public WindowViews() {
        town = new Town();
        kept = new Town();
        trial = new Town();
        glance = new Glance();
        tape = new Tape();
        sheets = new Sheets();
        told = new int[FINDINGS];
        gainsBefore = new int[OWNERS];
        gainsAfter = new int[OWNERS];
        spareRow = new int[OWNERS];
        imageKept = false;
    }

    // ---- things

    public int build(int kind, int lot, int owner, int height) {
        if (!within(kind, KINDS) || !within(lot, LOTS) || !within(owner, OWNERS) || !within(height, HEIGHTS)) {
            return finding(BEYOND);
        }
        if (town.isTaken(lot)) {
            return finding(STATE);
        }
        town.put(lot, kind, owner, height, 0);
        return town.thingCount();
    }

    public int clear(int lot) {
        if (!within(lot, LOTS)) {
            return finding(BEYOND);
        }
        if (!town.isTaken(lot)) {
            return finding(NONE);
        }
        town.takeOff(lot);
        return town.things[HEIGHT][lot];
    }

    public int of(int lot, int what) {
        if (!within(lot, LOTS) || !within(what, THING_ROWS + 3)) {
            return finding(BEYOND);
        }
        if (!town.isTaken(lot)) {
            return finding(NONE);
        }
        if (what < THING_ROWS) {
            return town.things[what][lot];
        }
        if (what == THING_ROWS) {
            return town.standing(lot);
        }
        return what == THING_ROWS + 1 ? town.squarePrice(lot) : town.growth(lot);
    }

    public int change(int lot, int what, int v) {
        if (!within(lot, LOTS) || !within(what, THING_ROWS) || !within(v, thingLimit(what))) {
            return finding(BEYOND);
        }
        if (!town.isTaken(lot)) {
            return finding(NONE);
        }
        int was = town.things[what][lot];
        town.things[what][lot] = v;
        return was;
    }

    public int price(int paint, int v) {
        if (!within(paint, PAINTS) || !within(v, PRICES)) {
            return finding(BEYOND);
        }
        int was = town.paintPrices[paint];
        town.paintPrices[paint] = v;
        return was;
    }

    // ---- windows

    public int window(int lot, int level, int way, int tenant) {
        if (!within(lot, LOTS) || !within(level, LEVELS) || !within(way, WAYS) || !within(tenant, OWNERS)) {
            return finding(BEYOND);
        }
        if (town.windowCount >= WINDOWS) {
            return finding(FULL);
        }
        town.addWindow(lot, level, way, tenant);
        return town.windowCount - 1;
    }

    public int windowOf(int window, int what) {
        if (!isWindow(window) || !within(what, WINDOW_ROWS)) {
            return finding(BEYOND);
        }
        return town.windows[what][window];
    }

    public int turn(int window, int what, int v) {
        if (!isWindow(window) || what < LEVEL || what > TENANT || !within(v, windowLimit(what))) {
            return finding(BEYOND);
        }
        int was = town.windows[what][window];
        town.windows[what][window] = v;
        return was;
    }

    public int contract(int window, int owner, int least) {
        if (!isWindow(window) || owner < -1 || owner >= OWNERS || !within(least, MOST_LEAST + 1)) {
            return finding(BEYOND);
        }
        town.windows[PARTNER][window] = owner;
        town.windows[LEAST][window] = owner < 0 ? 0 : least;
        return glance.isBroken(town, window) ? 1 : 0;
    }

    public int purse(int owner) {
        if (!within(owner, OWNERS)) {
            return finding(BEYOND);
        }
        return town.purses[owner];
    }

    // ---- views

    public int sees(int window, int k) {
        if (!isWindow(window) || k < 1 || k > FARTHEST) {
            return finding(BEYOND);
        }
        glance.look(town, window);
        return glance.squareSet(k);
    }

    public int view(int window) {
        if (!isWindow(window)) {
            return finding(BEYOND);
        }
        return glance.squaresInView(town, window);
    }

    public int share(int window, int owner) {
        if (!isWindow(window) || !within(owner, OWNERS)) {
            return finding(BEYOND);
        }
        return glance.squaresOfOwner(town, window, owner);
    }

    public int lots(int window) {
        if (!isWindow(window)) {
            return finding(BEYOND);
        }
        return glance.lotSet(town, window);
    }

    public int watched(int lot) {
        if (!within(lot, LOTS)) {
            return finding(BEYOND);
        }
        int set = 0;
        for (int w = 0; w < town.windowCount; w++) {
            if ((glance.lotSet(town, w) >> lot & 1) == 1) {
                set |= 1 << w;
            }
        }
        return set;
    }

    public int rent(int window) {
        if (!isWindow(window)) {
            return finding(BEYOND);
        }
        return glance.pay(town, window, spareRow);
    }

    public int gain(int owner) {
        if (!within(owner, OWNERS)) {
            return finding(BEYOND);
        }
        glance.gainsInto(town, gainsAfter);
        return gainsAfter[owner];
    }

    public int broken() {
        return glance.brokenSet(town);
    }

    // ---- months

    public int months(int n) {
        if (n < 1 || n > MOST_MONTHS) {
            return finding(BEYOND);
        }
        if (town.month + n > LAST_MONTH) {
            return finding(STATE);
        }
        return passMonths(town, n);
    }

    public int ahead(int n, int what) {
        if (!within(n, MOST_AHEAD + 1) || !within(what, 3 + OWNERS)) {
            return finding(BEYOND);
        }
        if (town.month + n > LAST_MONTH) {
            return finding(STATE);
        }
        trial.become(town);
        int paid = passMonths(trial, n);
        switch (what) {
            case 0:
                return paid;
            case 1:
                return glance.brokenSet(trial);
            case 2:
                return glance.squaresInAllViews(trial);
            default:
                return trial.purses[what - 3];
        }
    }

    public int breach(int window) {
        if (!isWindow(window)) {
            return finding(BEYOND);
        }
        if (town.windows[PARTNER][window] < 0 || town.month + MOST_AHEAD > LAST_MONTH) {
            return finding(STATE);
        }
        int behind = tryUntilBroken(window);
        return behind < 0 ? finding(NONE) : behind;
    }

    public int blame(int window) {
        if (!isWindow(window)) {
            return finding(BEYOND);
        }
        if (town.windows[PARTNER][window] < 0 || town.month + MOST_AHEAD > LAST_MONTH) {
            return finding(STATE);
        }
        if (tryUntilBroken(window) < 0) {
            return finding(NONE);
        }
        for (int lot = 0; lot < LOTS; lot++) {
            if (trial.isTaken(lot) && !isBrokenWithout(lot, window)) {
                return lot;
            }
        }
        return finding(NONE);
    }

    // ---- choosing

    public int paint(int lot) {
        if (!within(lot, LOTS)) {
            return finding(BEYOND);
        }
        if (!town.isTaken(lot)) {
            return finding(NONE);
        }
        return bestFor(lot, PAINT);
    }

    public int height(int lot) {
        if (!within(lot, LOTS)) {
            return finding(BEYOND);
        }
        if (!town.isTaken(lot)) {
            return finding(NONE);
        }
        return bestFor(lot, HEIGHT);
    }

    public int storey(int lot, int owner) {
        if (!within(lot, LOTS) || !within(owner, OWNERS)) {
            return finding(BEYOND);
        }
        if (!town.isTaken(lot)) {
            return finding(NONE);
        }
        if (town.things[HEIGHT][lot] >= HIGHEST) {
            return finding(STATE);
        }
        glance.gainsInto(town, gainsBefore);
        town.things[HEIGHT][lot]++;
        glance.gainsInto(town, gainsAfter);
        town.things[HEIGHT][lot]--;
        return gainsAfter[owner] - gainsBefore[owner];
    }

    public int allowed(int lot) {
        if (!within(lot, LOTS)) {
            return finding(BEYOND);
        }
        if (!town.isTaken(lot)) {
            return finding(NONE);
        }
        int was = town.things[HEIGHT][lot];
        int limit = 0;
        int most = 0;
        for (int tried = 0; tried < HEIGHTS; tried++) {
            town.things[HEIGHT][lot] = tried;
            int brokenOnes = Integer.bitCount(glance.brokenSet(town));
            if (tried == 0) {
                limit = brokenOnes;
            }
            if (brokenOnes <= limit) {
                most = tried;
            }
        }
        town.things[HEIGHT][lot] = was;
        return most;
    }

    public int opens(int lot) {
        if (!within(lot, LOTS)) {
            return finding(BEYOND);
        }
        if (!town.isTaken(lot)) {
            return finding(NONE);
        }
        int kind = town.things[KIND][lot];
        int set = 0;
        for (int w = 0; w < town.windowCount; w++) {
            int before = glance.squaresInView(town, w);
            town.takeOff(lot);
            if (glance.squaresInView(town, w) > before) {
                set |= 1 << w;
            }
            town.things[KIND][lot] = kind;
        }
        return set;
    }

    public int level(int window) {
        if (!isWindow(window)) {
            return finding(BEYOND);
        }
        int was = town.windows[LEVEL][window];
        int best = 0;
        int most = -1;
        for (int tried = 0; tried < LEVELS; tried++) {
            town.windows[LEVEL][window] = tried;
            int squares = glance.squaresInView(town, window);
            if (squares > most) {
                most = squares;
                best = tried;
            }
        }
        town.windows[LEVEL][window] = was;
        return best;
    }

    public int cheapest(int window) {
        if (!isWindow(window)) {
            return finding(BEYOND);
        }
        int was = town.windows[WAY][window];
        int best = 0;
        int least = 0;
        for (int tried = 0; tried < WAYS; tried++) {
            town.windows[WAY][window] = tried;
            int paid = glance.pay(town, window, spareRow);
            if (tried == 0 || paid < least) {
                least = paid;
                best = tried;
            }
        }
        town.windows[WAY][window] = was;
        return best;
    }

    public int site(int kind, int owner, int height) {
        if (!within(kind, KINDS) || !within(owner, OWNERS) || !within(height, HEIGHTS)) {
            return finding(BEYOND);
        }
        int best = -1;
        int most = 0;
        for (int lot = 0; lot < LOTS; lot++) {
            if (town.isTaken(lot)) {
                continue;
            }
            town.put(lot, kind, owner, height, 0);
            glance.gainsInto(town, gainsAfter);
            town.takeOff(lot);
            if (best < 0 || gainsAfter[owner] > most) {
                most = gainsAfter[owner];
                best = lot;
            }
        }
        return best < 0 ? finding(NONE) : best;
    }

    public int worst(int owner) {
        if (!within(owner, OWNERS)) {
            return finding(BEYOND);
        }
        if (town.month + YEAR - 1 > LAST_MONTH) {
            return finding(STATE);
        }
        int now = town.month;
        int best = 0;
        int least = 0;
        for (int on = 0; on < YEAR; on++) {
            town.month = now + on;
            glance.gainsInto(town, gainsAfter);
            if (on == 0 || gainsAfter[owner] < least) {
                least = gainsAfter[owner];
                best = on;
            }
        }
        town.month = now;
        return best;
    }

    // ---- trades

    public int trade(int one, int other) {
        if (!within(one, OWNERS) || !within(other, OWNERS) || one == other) {
            return finding(BEYOND);
        }
        glance.gainsInto(town, gainsBefore);
        for (int first = 0; first < LOTS; first++) {
            if (!town.isOwnersLot(first, one)) {
                continue;
            }
            for (int second = 0; second < LOTS; second++) {
                if (town.isOwnersLot(second, other) && bothGainIfLower(first, second)) {
                    return 100 * first + second;
                }
            }
        }
        return finding(NONE);
    }

    public int swap(int one, int other) {
        if (!within(one, LOTS) || !within(other, LOTS)) {
            return finding(BEYOND);
        }
        if (!town.isTaken(one) || !town.isTaken(other)) {
            return finding(NONE);
        }
        glance.gainsInto(town, gainsBefore);
        town.exchange(one, other);
        glance.gainsInto(town, gainsAfter);
        town.exchange(one, other);
        int balance = 0;
        for (int owner = 0; owner < OWNERS; owner++) {
            balance += Integer.compare(gainsAfter[owner], gainsBefore[owner]);
        }
        return balance;
    }

    public int spill(int n) {
        if (n < 1 || n > MOST_SPILLS) {
            return finding(BEYOND);
        }
        int things = town.thingCount();
        if (things == 0) {
            return finding(STATE);
        }
        for (int i = 0; i < n; i++) {
            int lot = town.lotOfThing(town.draw() % things);
            int paint = town.draw() % PAINTS;
            if (lot >= 0) {
                town.things[PAINT][lot] = paint;
            }
        }
        return glance.gainsInto(town, gainsAfter);
    }

    public int seed(int v) {
        int was = town.z;
        town.z = v;
        return was;
    }

    // ---- texts

    public int feed(int bytes, int n) {
        if (n < 1 || n > 4) {
            return finding(BEYOND);
        }
        if (tape.length + n > TAPE_BYTES) {
            return finding(FULL);
        }
        for (int i = n - 1; i >= 0; i--) {
            tape.append(bytes >>> 8 * i & 255);
        }
        return tape.length;
    }

    public int wipe() {
        int had = tape.length;
        tape.length = 0;
        return had;
    }

    public int text() {
        trial.become(town);
        int items = tape.readText(trial);
        tape.length = 0;
        if (tape.fault >= 0) {
            return -1 - tape.fault;
        }
        town.become(trial);
        return items;
    }

    // ---- spots, sheets

    public int hold(int spot, int lot) {
        if (!within(spot, SPOTS) || lot < -1 || lot >= LOTS) {
            return finding(BEYOND);
        }
        town.spots[spot] = lot;
        return 1;
    }

    public int as(int spot, int kind) {
        if (!within(spot, SPOTS) || !within(kind, KINDS)) {
            return finding(BEYOND);
        }
        int lot = town.spots[spot];
        if (lot < 0 || !town.isTaken(lot)) {
            return finding(MISSING);
        }
        return isOfKind(town.things[KIND][lot], kind) ? lot : finding(OTHER_KIND);
    }

    public int sheet(int s, int bits, int n) {
        if (!within(s, SHEETS) || bits != 0 && bits != 8 && bits != 16 && bits != 32) {
            return finding(BEYOND);
        }
        if (n < 0) {
            return finding(SIZE);
        }
        if (n > SHEET_NUMBERS) {
            return finding(BEYOND);
        }
        sheets.begin(s, bits, n);
        return sheets.lengths[s];
    }

    public int write(int s, int i, int v) {
        if (!within(s, SHEETS)) {
            return finding(BEYOND);
        }
        if (sheets.isMissing(s)) {
            return finding(MISSING);
        }
        if (!within(i, sheets.lengths[s])) {
            return finding(BEYOND);
        }
        sheets.store(s, i, v);
        return 1;
    }

    public int copy(int s, int from, int t, int to, int n) {
        if (!within(s, SHEETS) || !within(t, SHEETS)) {
            return finding(BEYOND);
        }
        if (sheets.isMissing(s) || sheets.isMissing(t)) {
            return finding(MISSING);
        }
        if (sheets.bits[s] != sheets.bits[t]) {
            return finding(OTHER_KIND);
        }
        if (!sheets.hasRange(s, from, n) || !sheets.hasRange(t, to, n)) {
            return finding(BEYOND);
        }
        System.arraycopy(sheets.numbers[s], from, sheets.numbers[t], to, n);
        return n;
    }

    public int load(int s, int from) {
        if (!within(s, SHEETS)) {
            return finding(BEYOND);
        }
        if (sheets.isMissing(s)) {
            return finding(MISSING);
        }
        if (!within(from, LOTS)) {
            return finding(BEYOND);
        }
        int got = 0;
        for (int i = 0; i < sheets.lengths[s] && from + i < LOTS; i++) {
            int number = sheets.numbers[s][i];
            if (!within(number, HEIGHTS)) {
                break;
            }
            if (town.isTaken(from + i)) {
                town.things[HEIGHT][from + i] = number;
                got++;
            }
        }
        return got;
    }

    public int judge(int s, int window) {
        if (!within(s, SHEETS)) {
            return finding(BEYOND);
        }
        if (sheets.isMissing(s)) {
            return finding(MISSING);
        }
        if (!isWindow(window)) {
            return finding(BEYOND);
        }
        glance.look(town, window);
        int right = 0;
        while (right < sheets.lengths[s] && right < FARTHEST
                && sheets.numbers[s][right] == glance.squareSet(right + 1)) {
            right++;
        }
        return right == FARTHEST && sheets.lengths[s] == FARTHEST ? 0 : 1 + right;
    }

    // ---- images

    public int image() {
        kept.become(town);
        imageKept = true;
        return 1;
    }

    public int undo() {
        if (!imageKept) {
            return finding(NONE);
        }
        town.become(kept);
        return town.month;
    }

    public int tear() {
        int was = imageKept ? 1 : 0;
        imageKept = false;
        return was;
    }

    public int count(int what) {
        switch (what) {
            case 0:
                return town.month;
            case 1:
                return town.thingCount();
            case 2:
                return town.windowCount;
            case 3:
                return town.heightOfAll();
            case 4:
                return town.contractCount();
            case 5:
                return tape.length;
            case 6:
                return town.z;
            case 7:
                return town.spotsInUse();
            default:
                return finding(BEYOND);
        }
    }

    public int status(int which) {
        if (which == -1) {
            int all = 0;
            for (int i = 0; i < FINDINGS; i++) {
                all += told[i];
            }
            return all;
        }
        return within(which, FINDINGS) ? told[which] : finding(BEYOND);
    }

    // ---- what the calls share

    private int finding(int which) {
        told[which]++;
        return LOW - which;
    }

    private static boolean within(int v, int limit) {
        return v >= 0 && v < limit;
    }

    private boolean isWindow(int window) {
        return within(window, town.windowCount);
    }

    private static int thingLimit(int what) {
        switch (what) {
            case KIND:
                return KINDS;
            case OWNER:
                return OWNERS;
            case HEIGHT:
                return HEIGHTS;
            default:
                return PAINTS;
        }
    }

    private static int windowLimit(int what) {
        switch (what) {
            case LEVEL:
                return LEVELS;
            case WAY:
                return WAYS;
            default:
                return OWNERS;
        }
    }

    private static boolean isOfKind(int kind, int wanted) {
        return wanted == BOX || kind == wanted || kindAbove(kind) == wanted;
    }

    /** A kind whose kind above isn't BOX has no kinds under it, so one step up tells all. */
    private static int kindAbove(int kind) {
        switch (kind) {
            case POPLAR:
                return TREE;
            case WASHING:
                return SHED;
            case TOWER:
                return HOUSE;
            default:
                return BOX;
        }
    }

    private int passMonths(Town t, int n) {
        int paid = 0;
        for (int i = 0; i < n; i++) {
            paid += glance.payAll(t);
            t.growAll();
        }
        return paid;
    }

    /** Leaves the trial town in the month in which the contract is broken; -1 if it never is. */
    private int tryUntilBroken(int window) {
        trial.become(town);
        for (int behind = 0; behind <= MOST_AHEAD; behind++) {
            if (glance.isBroken(trial, window)) {
                return behind;
            }
            trial.growAll();
        }
        return -1;
    }

    /** No thing's growth depends on another, so one taken off now is one taken off then. */
    private boolean isBrokenWithout(int lot, int window) {
        int kind = trial.things[KIND][lot];
        trial.takeOff(lot);
        boolean still = glance.isBroken(trial, window);
        trial.things[KIND][lot] = kind;
        return still;
    }

    private int bestFor(int lot, int what) {
        int owner = town.things[OWNER][lot];
        int was = town.things[what][lot];
        int limit = thingLimit(what);
        int best = 0;
        int most = 0;
        for (int tried = 0; tried < limit; tried++) {
            town.things[what][lot] = tried;
            glance.gainsInto(town, gainsAfter);
            if (tried == 0 || gainsAfter[owner] > most) {
                most = gainsAfter[owner];
                best = tried;
            }
        }
        town.things[what][lot] = was;
        return best;
    }

    private boolean bothGainIfLower(int first, int second) {
        int firstBy = town.lower(first);
        int secondBy = town.lower(second);
        glance.gainsInto(town, gainsAfter);
        town.things[HEIGHT][first] += firstBy;
        town.things[HEIGHT][second] += secondBy;
        int one = town.things[OWNER][first];
        int other = town.things[OWNER][second];
        return gainsAfter[one] > gainsBefore[one] && gainsAfter[other] > gainsBefore[other];
    }

    /** All that an image keeps. */
    private static final class Town {
        private final int[][] things = new int[THING_ROWS][LOTS];
        private final int[][] windows = new int[WINDOW_ROWS][WINDOWS];
        private final int[] paintPrices = new int[PAINTS];
        private final int[] purses = new int[OWNERS];
        private final int[] spots = new int[SPOTS];
        private int windowCount = 0;
        private int month = 0;
        private int z = 1;

        private Town() {
            for (int lot = 0; lot < LOTS; lot++) {
                things[KIND][lot] = -1;
            }
            for (int paint = 0; paint < PAINTS; paint++) {
                paintPrices[paint] = paint + 1;
            }
            for (int spot = 0; spot < SPOTS; spot++) {
                spots[spot] = -1;
            }
        }

        private void become(Town other) {
            for (int what = 0; what < THING_ROWS; what++) {
                System.arraycopy(other.things[what], 0, things[what], 0, LOTS);
            }
            for (int what = 0; what < WINDOW_ROWS; what++) {
                System.arraycopy(other.windows[what], 0, windows[what], 0, WINDOWS);
            }
            System.arraycopy(other.paintPrices, 0, paintPrices, 0, PAINTS);
            System.arraycopy(other.purses, 0, purses, 0, OWNERS);
            System.arraycopy(other.spots, 0, spots, 0, SPOTS);
            windowCount = other.windowCount;
            month = other.month;
            z = other.z;
        }

        private boolean isTaken(int lot) {
            return things[KIND][lot] >= 0;
        }

        private boolean isOwnersLot(int lot, int owner) {
            return isTaken(lot) && things[OWNER][lot] == owner;
        }

        private void put(int lot, int kind, int owner, int height, int paint) {
            things[KIND][lot] = kind;
            things[OWNER][lot] = owner;
            things[HEIGHT][lot] = height;
            things[PAINT][lot] = paint;
        }

        /** The other rows stay, so that giving KIND back undoes it. */
        private void takeOff(int lot) {
            things[KIND][lot] = -1;
        }

        private void exchange(int one, int other) {
            for (int what = 0; what < THING_ROWS; what++) {
                int was = things[what][one];
                things[what][one] = things[what][other];
                things[what][other] = was;
            }
        }

        private int lower(int lot) {
            int by = things[HEIGHT][lot] > 0 ? 1 : 0;
            things[HEIGHT][lot] -= by;
            return by;
        }

        private void addWindow(int lot, int level, int way, int tenant) {
            if (windowCount < WINDOWS) {
                windows[LOT][windowCount] = lot;
                windows[LEVEL][windowCount] = level;
                windows[WAY][windowCount] = way;
                windows[TENANT][windowCount] = tenant;
                windows[PARTNER][windowCount] = -1;
                windows[LEAST][windowCount] = 0;
                windowCount++;
            }
        }

        private boolean isSummer() {
            int seasonsMonth = month % YEAR;
            return seasonsMonth >= 3 && seasonsMonth <= 8;
        }

        private int standing(int lot) {
            int tall = things[HEIGHT][lot];
            switch (things[KIND][lot]) {
                case TREE:
                case POPLAR:
                    tall += isSummer() ? 2 : 0;
                    break;
                case WASHING:
                    tall = month % 2 == 1 ? 0 : tall;
                    break;
                case TOWER:
                    tall += 3;
                    break;
                default:
                    break;
            }
            return Math.min(HIGHEST, tall);
        }

        private int growth(int lot) {
            int rest = month % 4;
            switch (things[KIND][lot]) {
                case TREE:
                    return rest == 3 ? 1 : 0;
                case POPLAR:
                    return rest == 3 || rest == 1 ? 1 : 0;
                default:
                    return 0;
            }
        }

        private int squarePrice(int lot) {
            int paint = things[PAINT][lot];
            int ofPaint = paintPrices[paint];
            switch (things[KIND][lot]) {
                case TREE:
                case POPLAR:
                    return isSummer() ? ofPaint + 1 : ofPaint;
                case SHED:
                case WASHING:
                    return paint == 0 ? 0 : ofPaint;
                case HOUSE:
                case TOWER:
                    return 2 * ofPaint;
                default:
                    return ofPaint;
            }
        }

        private void growAll() {
            for (int lot = 0; lot < LOTS; lot++) {
                if (isTaken(lot)) {
                    things[HEIGHT][lot] = Math.min(HIGHEST, things[HEIGHT][lot] + growth(lot));
                }
            }
            month++;
        }

        private int draw() {
            z = z * 1103515245 + 12345;
            return z >>> 8;
        }

        private int lotOfThing(int number) {
            int left = number;
            for (int lot = 0; lot < LOTS; lot++) {
                if (isTaken(lot)) {
                    if (left == 0) {
                        return lot;
                    }
                    left--;
                }
            }
            return -1;
        }

        private int thingCount() {
            int sum = 0;
            for (int lot = 0; lot < LOTS; lot++) {
                sum += isTaken(lot) ? 1 : 0;
            }
            return sum;
        }

        private int heightOfAll() {
            int sum = 0;
            for (int lot = 0; lot < LOTS; lot++) {
                sum += isTaken(lot) ? things[HEIGHT][lot] : 0;
            }
            return sum;
        }

        private int contractCount() {
            int contracts = 0;
            for (int w = 0; w < windowCount; w++) {
                contracts += windows[PARTNER][w] >= 0 ? 1 : 0;
            }
            return contracts;
        }

        private int spotsInUse() {
            int used = 0;
            for (int spot = 0; spot < SPOTS; spot++) {
                used += spots[spot] >= 0 ? 1 : 0;
            }
            return used;
        }
    }

    /** What one window sees, by how many lots away (1 to 4); made anew by each look. */
    private static final class Glance {
        private final int[] lotsAway = new int[FARTHEST + 1];
        private final int[] tops = new int[FARTHEST + 1];
        private final int[] lowest = new int[FARTHEST + 1];

        private void look(Town town, int window) {
            int level = town.windows[LEVEL][window];
            int way = town.windows[WAY][window];
            int lot = town.windows[LOT][window];
            for (int k = 1; k <= FARTHEST; k++) {
                lot = nextLot(lot, way);
                if (lot >= 0 && town.isTaken(lot)) {
                    lotsAway[k] = lot;
                    tops[k] = town.standing(lot);
                    lowest[k] = lowestSeen(k, level);
                } else {
                    lotsAway[k] = -1;
                    tops[k] = 0;
                    lowest[k] = 0;
                }
            }
        }

        /** -1 behind the town's end. */
        private static int nextLot(int lot, int way) {
            if (lot < 0) {
                return -1;
            }
            switch (way) {
                case 0:
                    return lot >= SIDE ? lot - SIDE : -1;
                case 1:
                    return lot % SIDE < SIDE - 1 ? lot + 1 : -1;
                case 2:
                    return lot < LOTS - SIDE ? lot + SIDE : -1;
                default:
                    return lot % SIDE > 0 ? lot - 1 : -1;
            }
        }

        /** What hides a square hides all below it: the least j with (2 j - 2 level) near > (2 top - 2 level - 1) k. */
        private int lowestSeen(int k, int level) {
            int least = 0;
            for (int near = 1; near < k; near++) {
                if (lotsAway[near] >= 0) {
                    int edge = (2 * tops[near] - 2 * level - 1) * k;
                    least = Math.max(least, level + Math.floorDiv(edge, 2 * near) + 1);
                }
            }
            return least;
        }

        private int squares(int k) {
            return Math.max(0, tops[k] - lowest[k]);
        }

        private int squareSet(int k) {
            return squares(k) == 0 ? 0 : (1 << tops[k]) - (1 << lowest[k]);
        }

        private int squaresInView(Town town, int window) {
            look(town, window);
            int sum = 0;
            for (int k = 1; k <= FARTHEST; k++) {
                sum += squares(k);
            }
            return sum;
        }

        private int squaresInAllViews(Town town) {
            int sum = 0;
            for (int w = 0; w < town.windowCount; w++) {
                sum += squaresInView(town, w);
            }
            return sum;
        }

        private int squaresOfOwner(Town town, int window, int owner) {
            look(town, window);
            int sum = 0;
            for (int k = 1; k <= FARTHEST; k++) {
                if (lotsAway[k] >= 0 && town.things[OWNER][lotsAway[k]] == owner) {
                    sum += squares(k);
                }
            }
            return sum;
        }

        private int lotSet(Town town, int window) {
            look(town, window);
            int set = 0;
            for (int k = 1; k <= FARTHEST; k++) {
                if (lotsAway[k] >= 0 && squares(k) > 0) {
                    set |= 1 << lotsAway[k];
                }
            }
            return set;
        }

        /** Moves a window's rent between the purses told, and tells it. */
        private int pay(Town town, int window, int[] purses) {
            look(town, window);
            int tenant = town.windows[TENANT][window];
            int paid = 0;
            for (int k = 1; k <= FARTHEST; k++) {
                int lot = lotsAway[k];
                if (lot >= 0 && town.things[OWNER][lot] != tenant) {
                    int part = squares(k) * town.squarePrice(lot);
                    purses[town.things[OWNER][lot]] += part;
                    paid += part;
                }
            }
            purses[tenant] -= paid;
            return paid;
        }

        /** Tells the sum of all rents. */
        private int payAll(Town town) {
            int paid = 0;
            for (int w = 0; w < town.windowCount; w++) {
                paid += pay(town, w, town.purses);
            }
            return paid;
        }

        /** What a month would bring each owner; tells the sum of all rents too. */
        private int gainsInto(Town town, int[] gains) {
            for (int owner = 0; owner < OWNERS; owner++) {
                gains[owner] = 0;
            }
            int paid = 0;
            for (int w = 0; w < town.windowCount; w++) {
                paid += pay(town, w, gains);
            }
            return paid;
        }

        private boolean isBroken(Town town, int window) {
            int partner = town.windows[PARTNER][window];
            return partner >= 0 && squaresOfOwner(town, window, partner) < town.windows[LEAST][window];
        }

        private int brokenSet(Town town) {
            int set = 0;
            for (int w = 0; w < town.windowCount; w++) {
                if (isBroken(town, w)) {
                    set |= 1 << w;
                }
            }
            return set;
        }
    }

    /** The tape, and the reader that goes over its tokens. */
    private static final class Tape {
        private static final int END = 0;
        private static final int WORD = 1;
        private static final int NUMBER = 2;
        private static final int SIGN = 3;
        private static final int NO_TOKEN = 4;
        /** Every greater number is as wrong as this one. */
        private static final int TOO_GREAT = 1000;

        private final int[] bytes = new int[TAPE_BYTES];
        private int length = 0;
        private int sort = END;
        private int begin = 0;
        private int end = 0;
        private int number = 0;
        private int fault = -1;

        private void append(int b) {
            if (length < TAPE_BYTES) {
                bytes[length] = b;
                length++;
            }
        }

        /** Tells how many items there are, which the town has then; fault is -1 if all is well. */
        private int readText(Town town) {
            fault = -1;
            end = 0;
            nextToken();
            readItem(town);
            int items = 1;
            while (fault < 0 && sort == SIGN && items < TAPE_BYTES) {
                nextToken();
                readItem(town);
                items++;
            }
            if (sort != END) {
                failHere();
            }
            return items;
        }

        private void readItem(Town town) {
            int kind = kindOfWord();
            if (kind >= 0) {
                readThing(town, kind);
            } else if (isWord("window") && town.windowCount < WINDOWS) {
                readWindow(town);
            } else if (isWord("price")) {
                readPrice(town);
            } else if (isWord("clear")) {
                readClear(town);
            } else {
                failHere();
            }
        }

        private void readThing(Town town, int kind) {
            nextToken();
            takeWord("at");
            int lot = takeLot(town, false);
            takeWord("of");
            int owner = takeNumber(OWNERS);
            takeWord("high");
            int height = takeNumber(HEIGHTS);
            int paint = 0;
            if (isWord("paint")) {
                takeWord("paint");
                paint = takeNumber(PAINTS);
            }
            if (fault < 0) {
                town.put(lot, kind, owner, height, paint);
            }
        }

        private void readWindow(Town town) {
            nextToken();
            takeWord("at");
            int lot = takeNumber(LOTS);
            takeWord("level");
            int level = takeNumber(LEVELS);
            takeWord("way");
            int way = takeNumber(WAYS);
            takeWord("for");
            int tenant = takeNumber(OWNERS);
            if (fault < 0) {
                town.addWindow(lot, level, way, tenant);
            }
        }

        private void readPrice(Town town) {
            nextToken();
            int paint = takeNumber(PAINTS);
            int v = takeNumber(PRICES);
            if (fault < 0) {
                town.paintPrices[paint] = v;
            }
        }

        private void readClear(Town town) {
            nextToken();
            int lot = takeLot(town, true);
            if (fault < 0) {
                town.takeOff(lot);
            }
        }

        /** The first fault counts; behind it nothing is taken any more. */
        private void failHere() {
            if (fault < 0) {
                fault = begin;
            }
        }

        private void takeWord(String word) {
            if (fault < 0 && isWord(word)) {
                nextToken();
            } else {
                failHere();
            }
        }

        private int takeNumber(int limit) {
            if (fault >= 0 || sort != NUMBER || number >= limit) {
                failHere();
                return 0;
            }
            int value = number;
            nextToken();
            return value;
        }

        private int takeLot(Town town, boolean taken) {
            if (fault >= 0 || sort != NUMBER || number >= LOTS || town.isTaken(number) != taken) {
                failHere();
                return 0;
            }
            int value = number;
            nextToken();
            return value;
        }

        private int kindOfWord() {
            if (isWord("box")) {
                return BOX;
            }
            if (isWord("tree")) {
                return TREE;
            }
            if (isWord("shed")) {
                return SHED;
            }
            if (isWord("poplar")) {
                return POPLAR;
            }
            if (isWord("washing")) {
                return WASHING;
            }
            if (isWord("house")) {
                return HOUSE;
            }
            return isWord("tower") ? TOWER : -1;
        }

        private boolean isWord(String word) {
            if (sort != WORD || end - begin != word.length()) {
                return false;
            }
            for (int i = 0; i < word.length(); i++) {
                if (bytes[begin + i] != word.charAt(i)) {
                    return false;
                }
            }
            return true;
        }

        private void nextToken() {
            while (end < length && bytes[end] == ' ') {
                end++;
            }
            begin = end;
            sort = sortAt(begin);
            number = 0;
            if (sort == SIGN) {
                end++;
            } else if (sort == WORD || sort == NUMBER) {
                while (end < length && sortAt(end) == sort) {
                    number = sort == NUMBER ? Math.min(TOO_GREAT, 10 * number + bytes[end] - '0') : 0;
                    end++;
                }
            }
        }

        /** The sort of token to which the byte at a place belongs. */
        private int sortAt(int place) {
            if (place < 0 || place >= length) {
                return END;
            }
            int b = bytes[place];
            if (b >= 'a' && b <= 'z') {
                return WORD;
            }
            if (b >= '0' && b <= '9') {
                return NUMBER;
            }
            return b == ';' ? SIGN : NO_TOKEN;
        }
    }

    /** Rows of numbers of so many bits; a missing one has 0 bits and no numbers. */
    private static final class Sheets {
        private final int[][] numbers = new int[SHEETS][SHEET_NUMBERS];
        private final int[] bits = new int[SHEETS];
        private final int[] lengths = new int[SHEETS];

        private boolean isMissing(int s) {
            return bits[s] == 0;
        }

        private void begin(int s, int width, int n) {
            bits[s] = width;
            lengths[s] = width == 0 ? 0 : n;
            for (int i = 0; i < SHEET_NUMBERS; i++) {
                numbers[s][i] = 0;
            }
        }

        /** Numbers have their sign, as Java's own of 8, 16 and 32 bits. */
        private void store(int s, int i, int v) {
            switch (bits[s]) {
                case 8:
                    numbers[s][i] = (byte) v;
                    break;
                case 16:
                    numbers[s][i] = (short) v;
                    break;
                default:
                    numbers[s][i] = v;
                    break;
            }
        }

        /** Written so that no sum can wrap around. */
        private boolean hasRange(int s, int from, int n) {
            return from >= 0 && n >= 0 && from <= lengths[s] && n <= lengths[s] - from;
        }
    }
}
