import java.util.Arrays;

/**
 * Swims over a strait: the tide, swimmers and ships, strokes and relays, and the days of a neap.
 * The words in capitals in the comments are those of the document's Terms.
 */
public final class StraitSwim {
    private static final int NO_SUCH = -1;
    private static final int FULL = -2;
    private static final int NOBODY_GOES = -2;
    private static final int NOT_YET = -3;
    private static final int NONE = -4;
    private static final int NOTHING_HELD = -11;
    private static final int OTHER_KIND = -12;
    private static final int NO_PLACE = -13;
    private static final int SIZE_BELOW_0 = -14;
    private static final int NO_FAILURE = -15;

    private static final int WIDTH = 240;
    private static final int HEIGHT = 120;
    private static final int CELL = 10;
    private static final int COLUMNS = 24;
    private static final int ROWS = 12;
    private static final int BANDS = 3;
    private static final int BAND_HEIGHT = 40;
    private static final int HOURS = 12;
    private static final int QUARTERS_OF_HOUR = 4;
    private static final int QUARTERS_OF_DAY = 48;
    private static final int QUARTERS_OF_TIDE = 200;
    private static final int TIDE_MOST = 9;

    private static final int SWIMMERS = 10;
    private static final int SPEED_MOST = 20;
    private static final int LIMIT_MOST = 400;
    private static final int FEED_MOST = 40;
    private static final int CHILL_MOST = 20;
    private static final int CHILL_AT_FIRST = 5;
    private static final int SWIM_MOST = 100;
    private static final int AIMS = 8;
    private static final int[] AIM_EAST = {1, 1, 0, -1, -1, -1, 0, 1};
    private static final int[] AIM_NORTH = {0, 1, 1, 1, 0, -1, -1, -1};

    private static final int PLAIN = 0;
    private static final int GREASED = 1;
    private static final int QUICK = 2;
    private static final int SEASONED = 3;

    private static final int LANDED = 0;
    private static final int PULLED_OUT = 1;
    private static final int DRIFTED = 2;
    private static final int LOST = 3;

    private static final int SHIPS = 8;
    private static final int SHIP_MOST = 20;
    private static final int NEARNESS_MOST = 60;
    private static final int NEARNESS_AT_FIRST = 20;

    private static final int STROKES = 60;
    private static final int STROKE_MOST = 99;
    private static final int RUN_MOST = 10;
    private static final int ORDER_LEAST = 2;
    private static final int ORDER_MOST = 6;
    private static final int TURNS = 40;

    private static final int DAYS = 16;
    private static final int DAY_BITS = 65535;
    private static final int PILOTS = 4;
    private static final int SLOTS = 4;
    private static final int NOBODY = -1;

    private static final int SHELVES = 8;
    private static final int ROW_MOST = 60;
    private static final int A_NOTHING = 0;
    private static final int A_SWIMMER = 1;
    private static final int SHORTS = 3;
    private static final int BYTES = 4;

    private final Strait strait = new Strait();
    private final Plain[] swimmers = new Plain[SWIMMERS];
    private int swimmerCount = 0;
    private int chill = CHILL_AT_FIRST;
    private int nearness = NEARNESS_AT_FIRST;
    private final Swim latest = new Swim();
    // best() and ends() try their swims here, so that the latest one stays as it was.
    private final Swim trial = new Swim();
    private final Ship[] ships = new Ship[SHIPS];
    private int shipCount = 0;
    private final Tally counts = new Tally(STROKES);
    private final Tally relay = new Tally(ORDER_MOST);
    private final Tally turns = new Tally(TURNS);
    private final Neap neap = new Neap();
    private final Held[] shelves = new Held[SHELVES];

    public StraitSwim() {
    }

    // ---- the strait

    public int land(int row, int from, int to, boolean is) {
        if (!isWithin(row, 0, ROWS - 1) || !isWithin(from, 0, COLUMNS - 1)
                || !isWithin(to, 0, COLUMNS - 1) || from > to) {
            return NO_SUCH;
        }
        return strait.raise(row, from, to, is);
    }

    public int isLand(int x, int y) {
        if (!isPlace(x, y)) {
            return NO_SUCH;
        }
        return strait.isDry(x, y) ? 1 : 0;
    }

    public int tide(int band, int hour, int east, int north) {
        if (!isWithin(band, 0, BANDS - 1) || !isWithin(hour, 0, HOURS - 1)
                || !isWithin(east, -TIDE_MOST, TIDE_MOST)
                || !isWithin(north, -TIDE_MOST, TIDE_MOST)) {
            return NO_SUCH;
        }
        return strait.turnTide(band * HOURS + hour, east, north) ? 1 : 0;
    }

    public long carries(int x, int y, int quarter, int side) throws IllegalArgumentException {
        if (!isPlace(x, y) || !isWithin(quarter, 0, QUARTERS_OF_TIDE - 1)
                || !isWithin(side, 0, 1)) {
            throw new IllegalArgumentException("no such place, quarter or side");
        }
        int when = tideIndex(y, quarter);
        return side == 0 ? strait.east[when] : strait.north[when];
    }

    public int set(int what, int n) {
        if (what == 0 && isWithin(n, 0, CHILL_MOST)) {
            int before = chill;
            chill = n;
            return before;
        }
        if (what == 1 && isWithin(n, 1, NEARNESS_MOST)) {
            int before = nearness;
            nearness = n;
            return before;
        }
        return NO_SUCH;
    }

    // ---- swimmers and swims

    public int swimmer(int kind, int speed, int limit) {
        if (!isWithin(kind, PLAIN, SEASONED) || !isWithin(speed, 1, SPEED_MOST)
                || !isWithin(limit, 1, LIMIT_MOST)) {
            return NO_SUCH;
        }
        if (swimmerCount >= SWIMMERS) {
            return FULL;
        }
        swimmers[swimmerCount] = ofKind(kind, swimmerCount, speed, limit);
        swimmerCount++;
        return swimmerCount - 1;
    }

    public int feed(int swimmer, int n) {
        Plain who = known(swimmer);
        if (who == null || !isWithin(n, 0, FEED_MOST)) {
            return NO_SUCH;
        }
        int before = who.feed;
        who.feed = n;
        return before;
    }

    public int pace(int swimmer, int t, int what) {
        Plain who = known(swimmer);
        if (who == null || !isWithin(t, 0, SWIM_MOST - 1) || !isWithin(what, 0, 1)) {
            return NO_SUCH;
        }
        return what == 0 ? who.strideIn(t) : who.coldIn(t, chill);
    }

    public int swim(int swimmer, int x, int y, int quarter, int aim) {
        Plain who = known(swimmer);
        if (who == null || !isPlace(x, y) || !isWithin(quarter, 0, QUARTERS_OF_DAY - 1)
                || !isWithin(aim, 0, AIMS - 1)) {
            return NO_SUCH;
        }
        if (strait.isDry(x, y)) {
            return NONE;
        }
        latest.ready(who, chill);
        return latest.cross(strait, x, y, quarter, aim);
    }

    public int ended(int what) {
        if (!isWithin(what, 0, 4)) {
            return NO_SUCH;
        }
        if (!latest.hasBeen()) {
            return NOT_YET;
        }
        switch (what) {
            case 0:
                return latest.xs[latest.quarters];
            case 1:
                return latest.ys[latest.quarters];
            case 2:
                return latest.quarters;
            case 3:
                return latest.cold;
            default:
                return latest.number;
        }
    }

    public int where(int t) {
        if (!isWithin(t, 0, SWIM_MOST)) {
            return NO_SUCH;
        }
        if (!latest.hasBeen() || t > latest.quarters) {
            return NOT_YET;
        }
        return 1000 * latest.xs[t] + latest.ys[t];
    }

    public int best(int swimmer, int x, int y) {
        Plain who = known(swimmer);
        if (who == null || !isPlace(x, y)) {
            return NO_SUCH;
        }
        if (strait.isDry(x, y)) {
            return NONE;
        }
        trial.ready(who, chill);
        int fewest = SWIM_MOST + 1;
        int start = NONE;
        for (int quarter = 0; quarter < QUARTERS_OF_DAY; quarter++) {
            for (int aim = 0; aim < AIMS; aim++) {
                int end = trial.cross(strait, x, y, quarter, aim);
                if (end == LANDED && trial.quarters < fewest) {
                    fewest = trial.quarters;
                    start = 10 * quarter + aim;
                }
            }
        }
        return start;
    }

    public int ends(int swimmer, int x, int y, int end) {
        Plain who = known(swimmer);
        if (who == null || !isPlace(x, y) || !isWithin(end, LANDED, LOST)) {
            return NO_SUCH;
        }
        if (strait.isDry(x, y)) {
            return NONE;
        }
        trial.ready(who, chill);
        int found = 0;
        for (int quarter = 0; quarter < QUARTERS_OF_DAY; quarter++) {
            for (int aim = 0; aim < AIMS; aim++) {
                if (trial.cross(strait, x, y, quarter, aim) == end) {
                    found++;
                }
            }
        }
        return found;
    }

    public int ship(int x, int y, int east, int north) {
        if (!isPlace(x, y) || !isWithin(east, -SHIP_MOST, SHIP_MOST)
                || !isWithin(north, -SHIP_MOST, SHIP_MOST)) {
            return NO_SUCH;
        }
        if (shipCount >= SHIPS) {
            return FULL;
        }
        ships[shipCount] = new Ship(x, y, east, north);
        shipCount++;
        return shipCount - 1;
    }

    public int near(int ship) {
        if (!isWithin(ship, 0, shipCount - 1)) {
            return NO_SUCH;
        }
        if (!latest.hasBeen()) {
            return NOT_YET;
        }
        return firstNear(ships[ship]);
    }

    public int lanes() {
        if (!latest.hasBeen()) {
            return NOT_YET;
        }
        int bits = 0;
        for (int i = 0; i < shipCount; i++) {
            if (firstNear(ships[i]) != NONE) {
                bits |= 1 << i;
            }
        }
        return bits;
    }

    // ---- strokes and relays

    public int stroke(int n) {
        if (!isWithin(n, 0, STROKE_MOST)) {
            return NO_SUCH;
        }
        if (counts.isFull()) {
            return FULL;
        }
        counts.add(n);
        return counts.size;
    }

    public int strokes() {
        int gone = counts.size;
        counts.size = 0;
        return gone;
    }

    public int stop(int f, int k) {
        if (!isWithin(f, 0, STROKE_MOST) || !isWithin(k, 1, RUN_MOST)) {
            return NO_SUCH;
        }
        return stopsAt(f, k);
    }

    public int floor(int k) {
        if (!isWithin(k, 1, RUN_MOST)) {
            return NO_SUCH;
        }
        for (int f = 0; f <= STROKE_MOST; f++) {
            if (stopsAt(f, k) != NONE) {
                return f;
            }
        }
        return NONE;
    }

    public int order(int swimmers) {
        int size = orderSize(swimmers);
        if (size < ORDER_LEAST) {
            return NO_SUCH;
        }
        relay.size = 0;
        turns.size = 0;
        for (int i = 0; i < size; i++) {
            relay.add(orderDigit(swimmers, i) - 1);
        }
        return size;
    }

    public int turn(int swimmer) {
        if (known(swimmer) == null) {
            return NO_SUCH;
        }
        if (turns.isFull()) {
            return FULL;
        }
        if (relay.size == 0) {
            return NOT_YET;
        }
        turns.add(swimmer);
        return turns.size;
    }

    public int voided() {
        int size = relay.size;
        if (size == 0) {
            return NOT_YET;
        }
        for (int i = 0; i < turns.size; i++) {
            if (turns.items[i] != relay.items[i % size]) {
                return i;
            }
        }
        return NONE;
    }

    // ---- days of a neap

    public int calm(int day, boolean is) {
        if (!isWithin(day, 0, DAYS - 1)) {
            return NO_SUCH;
        }
        int before = neap.calmDays;
        neap.calmDays = is ? before | 1 << day : before & ~(1 << day);
        return neap.calmDays != before ? 1 : 0;
    }

    public int slot(int swimmer, int pilot, int slot, int days) {
        if (known(swimmer) == null || !isWithin(pilot, 0, PILOTS - 1)
                || !isWithin(slot, 1, SLOTS) || !isWithin(days, 0, DAY_BITS)) {
            return NO_SUCH;
        }
        return neap.enter(swimmer, pilot, slot, days) ? 1 : 0;
    }

    public int done() {
        int most = 0;
        for (int pilot = 0; pilot < PILOTS; pilot++) {
            most += neap.mostFrom(0, pilot, 0);
        }
        return most;
    }

    public int goes(int day, int pilot) {
        if (!isWithin(day, 0, DAYS - 1) || !isWithin(pilot, 0, PILOTS - 1)) {
            return NO_SUCH;
        }
        int who = neap.whoGoes(day, pilot);
        return who == NOBODY ? NOBODY_GOES : who;
    }

    public int count(int what) {
        switch (what) {
            case 0:
                return swimmerCount;
            case 1:
                return strait.dryCells;
            case 2:
                return shipCount;
            case 3:
                return counts.size;
            case 4:
                return turns.size;
            case 5:
                return Integer.bitCount(neap.calmDays);
            default:
                return NO_SUCH;
        }
    }

    public int keep(int d, int what, int k) {
        if (!isShelf(d)) {
            return NO_SUCH;
        }
        switch (what) {
            case A_NOTHING:
                shelves[d] = null;
                return 0;
            case A_SWIMMER:
                Plain who = known(k);
                if (who == null) {
                    return NO_SUCH;
                }
                shelves[d] = twinOf(who);
                return 0;
            case SHORTS:
                shelves[d] = rowOfLatest();
                return 0;
            case BYTES:
                shelves[d] = rowOfCounts();
                return 0;
            default:
                return NO_SUCH;
        }
    }

    public int make(int d, int what, int n) {
        if (!isShelf(d) || !isWithin(what, SHORTS, BYTES) || n > ROW_MOST) {
            return NO_SUCH;
        }
        if (n < 0) {
            return SIZE_BELOW_0;
        }
        shelves[d] = new Row(what, n);
        return 0;
    }

    public long element(int d, int i) throws IllegalArgumentException, IllegalStateException {
        if (!isShelf(d)) {
            throw new IllegalArgumentException("no such shelf");
        }
        if (!(shelves[d] instanceof Row row) || !isWithin(i, 0, row.items.length - 1)) {
            throw new IllegalStateException("no row, or no such place in it");
        }
        return row.items[i];
    }

    public int copy(int d, int i, int e, int j, int n) {
        if (!isShelf(d) || !isShelf(e)) {
            return NO_SUCH;
        }
        if (shelves[d] == null || shelves[e] == null) {
            return NOTHING_HELD;
        }
        if (!(shelves[d] instanceof Row source) || !(shelves[e] instanceof Row target)
                || source.kind != target.kind) {
            return OTHER_KIND;
        }
        if (!source.spans(i, n) || !target.spans(j, n)) {
            return NO_PLACE;
        }
        System.arraycopy(source.items, i, target.items, j, n);
        return n;
    }

    public int weight(int d) {
        if (!isShelf(d)) {
            return NO_SUCH;
        }
        if (shelves[d] == null) {
            return NOTHING_HELD;
        }
        return shelves[d] instanceof Plain who ? who.heft() : OTHER_KIND;
    }

    public int toss(int d) {
        if (!isShelf(d)) {
            return NO_SUCH;
        }
        if (shelves[d] == null) {
            return NOTHING_HELD;
        }
        return shelves[d] instanceof Plain who ? failureOf(who) : OTHER_KIND;
    }

    // ---- what the calls share

    private static boolean isWithin(int n, int least, int most) {
        return n >= least && n <= most;
    }

    private static boolean isPlace(int x, int y) {
        return isWithin(x, 0, WIDTH - 1) && isWithin(y, 0, HEIGHT - 1);
    }

    private static boolean isShelf(int d) {
        return isWithin(d, 0, SHELVES - 1);
    }

    private static int tideIndex(int y, int quarter) {
        return y / BAND_HEIGHT * HOURS + quarter / QUARTERS_OF_HOUR % HOURS;
    }

    private static Plain ofKind(int kind, int number, int speed, int limit) {
        switch (kind) {
            case GREASED:
                return new Greased(number, speed, limit);
            case QUICK:
                return new Quick(number, speed, limit);
            case SEASONED:
                return new Seasoned(number, speed, limit);
            default:
                return new Plain(number, speed, limit);
        }
    }

    private static Plain twinOf(Plain who) {
        Plain twin = ofKind(who.kind(), who.number, who.speed, who.limit);
        twin.feed = who.feed;
        return twin;
    }

    private static int failureOf(Plain who) {
        try {
            who.fail();
        } catch (IllegalStateException e) {
            return who.number;
        }
        return NO_FAILURE;
    }

    private Plain known(int swimmer) {
        return isWithin(swimmer, 0, swimmerCount - 1) ? swimmers[swimmer] : null;
    }

    private int firstNear(Ship ship) {
        if (ship == null) {
            return NONE;
        }
        for (int t = 0; t < latest.quarters; t++) {
            if (ship.isBy(latest.xs[t + 1], latest.ys[t + 1], t + 1, nearness)) {
                return t;
            }
        }
        return NONE;
    }

    private int stopsAt(int f, int k) {
        int run = 0;
        for (int i = 0; i < counts.size; i++) {
            run = counts.items[i] < f ? run + 1 : 0;
            if (run == k) {
                return i;
            }
        }
        return NONE;
    }

    private static int orderDigit(int digits, int i) {
        return digits >>> 4 * i & 15;
    }

    /** How many SWIMMERS the digits tell; NO_SUCH if they tell no ORDER. */
    private int orderSize(int digits) {
        int told = 0;
        int size = 0;
        while (size < ORDER_MOST && digits >>> 4 * size != 0) {
            int who = orderDigit(digits, size) - 1;
            if (known(who) == null || (told >> who & 1) != 0) {
                return NO_SUCH;
            }
            told |= 1 << who;
            size++;
        }
        return digits >>> 4 * ORDER_MOST == 0 ? size : NO_SUCH;
    }

    private Row rowOfLatest() {
        int places = latest.hasBeen() ? latest.quarters + 1 : 0;
        Row row = new Row(SHORTS, 2 * places);
        for (int t = 0; t < places; t++) {
            row.items[2 * t] = (short) latest.xs[t];
            row.items[2 * t + 1] = (short) latest.ys[t];
        }
        return row;
    }

    private Row rowOfCounts() {
        Row row = new Row(BYTES, counts.size);
        for (int i = 0; i < counts.size; i++) {
            row.items[i] = (short) counts.items[i];
        }
        return row;
    }

    /** What a SHELF can hold. */
    private interface Held {
    }

    /** A SWIMMER of KIND PLAIN, from which the other KINDS differ. */
    private static class Plain implements Held {
        final int number;
        final int speed;
        final int limit;
        int feed = 0;

        Plain(int number, int speed, int limit) {
            this.number = number;
            this.speed = speed;
            this.limit = limit;
        }

        int kind() {
            return PLAIN;
        }

        int coldIn(int t, int chill) {
            return chill + t / 8;
        }

        int paceIn(int t) {
            return Math.max(1, speed - t / 6);
        }

        final boolean feedsIn(int t) {
            return feed > 0 && (t + 1) % feed == 0;
        }

        final int strideIn(int t) {
            return feedsIn(t) ? paceIn(t) / 2 : paceIn(t);
        }

        int heft() {
            return 10 + speed + feed;
        }

        /** Throws its FAILURE; PLAIN ones have none. */
        void fail() {
        }
    }

    private static class Greased extends Plain {
        Greased(int number, int speed, int limit) {
            super(number, speed, limit);
        }

        int kind() {
            return GREASED;
        }

        int coldIn(int t, int chill) {
            return Math.max(1, super.coldIn(t, chill) - 2);
        }

        int heft() {
            return super.heft() + 100;
        }

        void fail() {
            throw new IllegalStateException("the grease is off");
        }
    }

    private static final class Quick extends Plain {
        Quick(int number, int speed, int limit) {
            super(number, speed, limit);
        }

        int kind() {
            return QUICK;
        }

        int paceIn(int t) {
            return t < 8 ? speed + 4 : Math.max(1, speed - t / 4);
        }

        int heft() {
            return super.heft() + limit;
        }

        void fail() {
            throw new IllegalStateException("too quick at first");
        }
    }

    private static final class Seasoned extends Greased {
        Seasoned(int number, int speed, int limit) {
            super(number, speed, limit);
        }

        int kind() {
            return SEASONED;
        }

        int coldIn(int t, int chill) {
            return Math.max(1, super.coldIn(t, chill) / 2);
        }

        int heft() {
            return 2 * super.heft();
        }
    }

    /** The CELLS and THE TIDE. */
    private static final class Strait {
        final boolean[] dry = new boolean[ROWS * COLUMNS];
        int dryCells = 0;
        final int[] east = new int[BANDS * HOURS];
        final int[] north = new int[BANDS * HOURS];

        int raise(int row, int from, int to, boolean is) {
            int changed = 0;
            for (int column = from; column <= to; column++) {
                int cell = row * COLUMNS + column;
                if (dry[cell] != is) {
                    dry[cell] = is;
                    changed++;
                }
            }
            dryCells += is ? changed : -changed;
            return changed;
        }

        boolean isDry(int x, int y) {
            return isPlace(x, y) && dry[y / CELL * COLUMNS + x / CELL];
        }

        boolean turnTide(int when, int toEast, int toNorth) {
            boolean other = east[when] != toEast || north[when] != toNorth;
            east[when] = toEast;
            north[when] = toNorth;
            return other;
        }
    }

    /** One SWIM at a time, with every place of its way. */
    private static final class Swim {
        int number = 0;
        int quarters = 0;
        int cold = 0;
        final int[] xs = new int[SWIM_MOST + 1];
        final int[] ys = new int[SWIM_MOST + 1];
        // How far it swims in quarter t, and COLD in all ahead of quarter t: neither looks at
        // the way, so that best() and ends() reckon them once for all their swims.
        private final int[] strides = new int[SWIM_MOST];
        private final int[] colds = new int[SWIM_MOST + 1];
        private int reach = 0;
        private boolean tooCold = false;

        boolean hasBeen() {
            return quarters > 0;
        }

        /** Makes ready for swims of one SWIMMER: how far it gets if it neither lands nor drifts. */
        void ready(Plain who, int chill) {
            number = who.number;
            reach = 0;
            tooCold = false;
            for (int t = 0; t < SWIM_MOST && !tooCold; t++) {
                strides[t] = who.strideIn(t);
                int more = colds[t] + who.coldIn(t, chill);
                colds[t + 1] = who.feedsIn(t) ? Math.max(0, more - 3) : more;
                reach = t + 1;
                tooCold = colds[reach] >= who.limit;
            }
        }

        int cross(Strait strait, int x, int y, int quarter, int aim) {
            quarters = 0;
            xs[0] = x;
            ys[0] = y;
            int end = tooCold ? PULLED_OUT : LOST;
            for (int t = 0; t < reach; t++) {
                if (!staysWithin(strait, t, quarter + t, aim)) {
                    end = DRIFTED;
                    break;
                }
                if (strait.isDry(xs[t + 1], ys[t + 1])) {
                    end = LANDED;
                    break;
                }
            }
            cold = colds[end == DRIFTED ? quarters - 1 : quarters];
            return end;
        }

        /** Swims its t-th quarter; one that would be out of the PLACES stays where it was. */
        private boolean staysWithin(Strait strait, int t, int clock, int aim) {
            int along = aim % 2 == 0 ? strides[t] : strides[t] * 7 / 10;
            int when = tideIndex(ys[t], clock);
            int x = xs[t] + AIM_EAST[aim] * along + strait.east[when];
            int y = ys[t] + AIM_NORTH[aim] * along + strait.north[when];
            boolean within = isPlace(x, y);
            quarters = t + 1;
            xs[quarters] = within ? x : xs[t];
            ys[quarters] = within ? y : ys[t];
            return within;
        }
    }

    /** A SHIP, with its place at quarter 0 and how it moves in each. */
    private static final class Ship {
        private final int x;
        private final int y;
        private final int east;
        private final int north;

        Ship(int x, int y, int east, int north) {
            this.x = x;
            this.y = y;
            this.east = east;
            this.north = north;
        }

        boolean isBy(int atX, int atY, int moves, int nearness) {
            return Math.abs(x + moves * east - atX) < nearness
                    && Math.abs(y + moves * north - atY) < nearness;
        }
    }

    /** Numbers one behind the other, up to a bound that is told at first. */
    private static final class Tally {
        final int[] items;
        int size = 0;

        Tally(int most) {
            items = new int[most];
        }

        boolean isFull() {
            return size >= items.length;
        }

        void add(int n) {
            if (!isFull()) {
                items[size] = n;
                size++;
            }
        }
    }

    /** DAYS of a neap and who can on which. */
    private static final class Neap {
        int calmDays = 0;
        private final boolean[] entered = new boolean[SWIMMERS];
        private final int[] pilots = new int[SWIMMERS];
        private final int[] slots = new int[SWIMMERS];
        private final int[] days = new int[SWIMMERS];
        private final int[] holders = new int[DAYS];
        private int tried = 0;

        boolean enter(int swimmer, int pilot, int slot, int bits) {
            boolean first = !entered[swimmer];
            entered[swimmer] = true;
            pilots[swimmer] = pilot;
            slots[swimmer] = slot;
            days[swimmer] = bits;
            return first;
        }

        /** The most SWIMS of a PILOT from a DAY on, without the SWIMMERS (bits) that are gone. */
        int mostFrom(int day, int pilot, int gone) {
            int open = calmDays & -1 << day;
            int most = 0;
            Arrays.fill(holders, NOBODY);
            for (int swimmer = 0; swimmer < SWIMMERS; swimmer++) {
                tried = 0;
                if (isOf(swimmer, pilot, gone) && findDay(swimmer, open, 0)) {
                    most++;
                }
            }
            return most;
        }

        /** Goes through the DAYS up to the one asked for, as WHO GOES hangs on those before it. */
        int whoGoes(int day, int pilot) {
            int gone = 0;
            int who = NOBODY;
            for (int at = 0; at <= day; at++) {
                who = pick(at, pilot, gone);
                if (who != NOBODY) {
                    gone |= 1 << who;
                }
            }
            return who;
        }

        private int pick(int day, int pilot, int gone) {
            int most = mostFrom(day, pilot, gone);
            int who = NOBODY;
            for (int swimmer = 0; swimmer < SWIMMERS; swimmer++) {
                boolean can = isOf(swimmer, pilot, gone)
                        && (days[swimmer] & calmDays & 1 << day) != 0;
                if (can && (who == NOBODY || slots[swimmer] < slots[who])
                        && 1 + mostFrom(day + 1, pilot, gone | 1 << swimmer) == most) {
                    who = swimmer;
                }
            }
            return who;
        }

        private boolean isOf(int swimmer, int pilot, int gone) {
            return entered[swimmer] && pilots[swimmer] == pilot && (gone >> swimmer & 1) == 0;
        }

        /** Finds a DAY for a SWIMMER; one that holds it already may have to go to another DAY. */
        private boolean findDay(int swimmer, int open, int depth) {
            if (swimmer < 0 || depth > SWIMMERS) {
                return false;
            }
            for (int day = 0; day < DAYS; day++) {
                int bit = 1 << day;
                if ((days[swimmer] & open & ~tried & bit) != 0) {
                    tried |= bit;
                    if (holders[day] == NOBODY || findDay(holders[day], open, depth + 1)) {
                        holders[day] = swimmer;
                        return true;
                    }
                }
            }
            return false;
        }
    }

    /** A ROW of shorts, or of bytes: these fit into shorts too. */
    private static final class Row implements Held {
        final int kind;
        final short[] items;

        Row(int kind, int size) {
            this.kind = kind;
            items = new short[size];
        }

        boolean spans(int from, int n) {
            return from >= 0 && n >= 0 && from <= items.length && n <= items.length - from;
        }
    }
}
