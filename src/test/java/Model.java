import java.util.ArrayList;
import java.util.HashMap;
import java.util.HashSet;
import java.util.List;
import java.util.Map;
import java.util.Set;

/**
 * The document once more, as plainly and slowly as can be, and by other means than the class:
 * what RandomRunsTest compares with. Calls have the names of the face.
 */
public final class Model {
    private record Place(int x, int y) {
    }

    private static final class Person {
        int number;
        int kind;
        int speed;
        int limit;
        int feed;
        int[] slot;

        Person copy() {
            Person p = new Person();
            p.number = number;
            p.kind = kind;
            p.speed = speed;
            p.limit = limit;
            p.feed = feed;
            return p;
        }
    }

    private static final class Way {
        int end;
        int cold;
        int who;
        final List<Place> places = new ArrayList<>();

        int quarters() {
            return places.size() - 1;
        }

        Place last() {
            return places.get(quarters());
        }
    }

    private record Line(int kind, int[] items) {
    }

    private final Set<Place> landCells = new HashSet<>();
    private final Map<Integer, int[]> tides = new HashMap<>();
    private final List<Person> people = new ArrayList<>();
    private final List<int[]> ships = new ArrayList<>();
    private final List<Integer> counts = new ArrayList<>();
    private final List<Integer> relay = new ArrayList<>();
    private final List<Integer> turns = new ArrayList<>();
    private final Set<Integer> calmDays = new HashSet<>();
    private final Map<Integer, Object> shelves = new HashMap<>();
    private int chill = 5;
    private int nearness = 20;
    private Way latest;

    private static boolean out(int n, int least, int most) {
        return n < least || n > most;
    }

    private static boolean noPlace(int x, int y) {
        return out(x, 0, 239) || out(y, 0, 119);
    }

    private boolean noSwimmer(int k) {
        return out(k, 0, people.size() - 1);
    }

    private boolean inLand(int x, int y) {
        return landCells.contains(new Place(x / 10, y / 10));
    }

    private int[] tideAt(int y, int quarter) {
        int band = y < 40 ? 0 : y < 80 ? 1 : 2;
        int[] t = tides.get(12 * band + quarter % 48 / 4);
        return t == null ? new int[] {0, 0} : t;
    }

    public int land(int row, int from, int to, boolean is) {
        if (out(row, 0, 11) || out(from, 0, 23) || out(to, 0, 23) || from > to) {
            return -1;
        }
        int before = landCells.size();
        for (int column = from; column <= to; column++) {
            if (is) {
                landCells.add(new Place(column, row));
            } else {
                landCells.remove(new Place(column, row));
            }
        }
        return Math.abs(landCells.size() - before);
    }

    public int isLand(int x, int y) {
        return noPlace(x, y) ? -1 : inLand(x, y) ? 1 : 0;
    }

    public int tide(int band, int hour, int east, int north) {
        if (out(band, 0, 2) || out(hour, 0, 11) || out(east, -9, 9) || out(north, -9, 9)) {
            return -1;
        }
        int[] before = tides.put(12 * band + hour, new int[] {east, north});
        int oldEast = before == null ? 0 : before[0];
        int oldNorth = before == null ? 0 : before[1];
        return oldEast == east && oldNorth == north ? 0 : 1;
    }

    public long carries(int x, int y, int quarter, int side) {
        if (noPlace(x, y) || out(quarter, 0, 199) || out(side, 0, 1)) {
            throw new IllegalArgumentException();
        }
        return tideAt(y, quarter)[side];
    }

    public int set(int what, int n) {
        int before = what == 0 ? chill : nearness;
        if (what == 0 && !out(n, 0, 20)) {
            chill = n;
        } else if (what == 1 && !out(n, 1, 60)) {
            nearness = n;
        } else {
            return -1;
        }
        return before;
    }

    public int swimmer(int kind, int speed, int limit) {
        if (out(kind, 0, 3) || out(speed, 1, 20) || out(limit, 1, 400)) {
            return -1;
        }
        if (people.size() == 10) {
            return -2;
        }
        Person p = new Person();
        p.number = people.size();
        p.kind = kind;
        p.speed = speed;
        p.limit = limit;
        people.add(p);
        return people.size() - 1;
    }

    public int feed(int swimmer, int n) {
        if (noSwimmer(swimmer) || out(n, 0, 40)) {
            return -1;
        }
        int before = people.get(swimmer).feed;
        people.get(swimmer).feed = n;
        return before;
    }

    private static boolean isFed(Person p, int t) {
        for (int n = p.feed; p.feed > 0 && n <= t + 1; n += p.feed) {
            if (n == t + 1) {
                return true;
            }
        }
        return false;
    }

    private static int paceOf(Person p, int t) {
        int pace = p.speed - t / 6;
        if (p.kind == 2) {
            pace = t < 8 ? p.speed + 4 : p.speed - t / 4;
        }
        pace = pace < 1 ? 1 : pace;
        return isFed(p, t) ? pace / 2 : pace;
    }

    private int coldOf(Person p, int t) {
        int cold = chill + t / 8;
        if (p.kind == 1 || p.kind == 3) {
            cold = cold - 2 < 1 ? 1 : cold - 2;
        }
        if (p.kind == 3) {
            cold = cold / 2 < 1 ? 1 : cold / 2;
        }
        return cold;
    }

    public int pace(int swimmer, int t, int what) {
        if (noSwimmer(swimmer) || out(t, 0, 99) || out(what, 0, 1)) {
            return -1;
        }
        Person p = people.get(swimmer);
        return what == 0 ? paceOf(p, t) : coldOf(p, t);
    }

    private static int along(int aim, int pace, boolean isNorth) {
        String signs = isNorth ? "0+++0---" : "++0---0+";
        int far = aim % 2 == 1 ? (int) Math.floor(pace * 7 / 10.0) : pace;
        char sign = signs.charAt(aim);
        return sign == '0' ? 0 : sign == '+' ? far : -far;
    }

    private Way wayOf(int swimmer, int x, int y, int quarter, int aim) {
        Person p = people.get(swimmer);
        Way way = new Way();
        way.who = swimmer;
        way.places.add(new Place(x, y));
        for (int t = 0; t < 100; t++) {
            Place at = way.last();
            int pace = paceOf(p, t);
            int[] carried = tideAt(at.y, quarter + t);
            Place to = new Place(at.x + along(aim, pace, false) + carried[0],
                    at.y + along(aim, pace, true) + carried[1]);
            if (noPlace(to.x, to.y)) {
                way.places.add(at);
                way.end = 2;
                return way;
            }
            way.places.add(to);
            way.cold += coldOf(p, t);
            if (isFed(p, t)) {
                way.cold = way.cold < 3 ? 0 : way.cold - 3;
            }
            if (inLand(to.x, to.y)) {
                way.end = 0;
                return way;
            }
            if (way.cold >= p.limit) {
                way.end = 1;
                return way;
            }
        }
        way.end = 3;
        return way;
    }

    public int swim(int swimmer, int x, int y, int quarter, int aim) {
        if (noSwimmer(swimmer) || noPlace(x, y) || out(quarter, 0, 47) || out(aim, 0, 7)) {
            return -1;
        }
        if (inLand(x, y)) {
            return -4;
        }
        latest = wayOf(swimmer, x, y, quarter, aim);
        return latest.end;
    }

    public int ended(int what) {
        if (out(what, 0, 4)) {
            return -1;
        }
        if (latest == null) {
            return -3;
        }
        int[] all = {latest.last().x, latest.last().y, latest.quarters(), latest.cold, latest.who};
        return all[what];
    }

    public int where(int t) {
        if (out(t, 0, 100)) {
            return -1;
        }
        if (latest == null || t >= latest.places.size()) {
            return -3;
        }
        return 1000 * latest.places.get(t).x + latest.places.get(t).y;
    }

    public int best(int swimmer, int x, int y) {
        if (noSwimmer(swimmer) || noPlace(x, y)) {
            return -1;
        }
        if (inLand(x, y)) {
            return -4;
        }
        long least = Long.MAX_VALUE;
        for (int start = 383; start >= 0; start--) {
            Way way = wayOf(swimmer, x, y, start / 8, start % 8);
            if (way.end == 0) {
                long rank = way.quarters() * 1000L + 10 * (start / 8) + start % 8;
                least = Math.min(least, rank);
            }
        }
        return least == Long.MAX_VALUE ? -4 : (int) (least % 1000);
    }

    public int ends(int swimmer, int x, int y, int end) {
        if (noSwimmer(swimmer) || noPlace(x, y) || out(end, 0, 3)) {
            return -1;
        }
        if (inLand(x, y)) {
            return -4;
        }
        int found = 0;
        for (int start = 0; start < 384; start++) {
            found += wayOf(swimmer, x, y, start / 8, start % 8).end == end ? 1 : 0;
        }
        return found;
    }

    public int ship(int x, int y, int east, int north) {
        if (noPlace(x, y) || out(east, -20, 20) || out(north, -20, 20)) {
            return -1;
        }
        if (ships.size() == 8) {
            return -2;
        }
        ships.add(new int[] {x, y, east, north});
        return ships.size() - 1;
    }

    public int near(int ship) {
        if (out(ship, 0, ships.size() - 1)) {
            return -1;
        }
        if (latest == null) {
            return -3;
        }
        int x = ships.get(ship)[0];
        int y = ships.get(ship)[1];
        for (int t = 0; t < latest.quarters(); t++) {
            x += ships.get(ship)[2];
            y += ships.get(ship)[3];
            Place behind = latest.places.get(t + 1);
            if (!out(behind.x - x, 1 - nearness, nearness - 1)
                    && !out(behind.y - y, 1 - nearness, nearness - 1)) {
                return t;
            }
        }
        return -4;
    }

    public int lanes() {
        if (latest == null) {
            return -3;
        }
        int bits = 0;
        for (int i = 0; i < ships.size(); i++) {
            bits += near(i) >= 0 ? 1 << i : 0;
        }
        return bits;
    }

    public int stroke(int n) {
        if (out(n, 0, 99)) {
            return -1;
        }
        if (counts.size() == 60) {
            return -2;
        }
        counts.add(n);
        return counts.size();
    }

    public int strokes() {
        int many = counts.size();
        counts.clear();
        return many;
    }

    public int stop(int f, int k) {
        if (out(f, 0, 99) || out(k, 1, 10)) {
            return -1;
        }
        for (int last = k - 1; last < counts.size(); last++) {
            boolean all = true;
            for (int n : counts.subList(last - k + 1, last + 1)) {
                all &= n < f;
            }
            if (all) {
                return last;
            }
        }
        return -4;
    }

    public int floor(int k) {
        if (out(k, 1, 10)) {
            return -1;
        }
        int least = 100;
        for (int first = 0; first + k <= counts.size(); first++) {
            int most = 0;
            for (int n : counts.subList(first, first + k)) {
                most = Math.max(most, n);
            }
            least = Math.min(least, most + 1);
        }
        return least > 99 ? -4 : least;
    }

    public int order(int swimmers) {
        String digits = new StringBuilder(Integer.toHexString(swimmers)).reverse().toString();
        List<Integer> told = new ArrayList<>();
        for (char c : digits.toCharArray()) {
            int who = Character.digit(c, 16) - 1;
            if (noSwimmer(who) || told.contains(who)) {
                return -1;
            }
            told.add(who);
        }
        if (out(told.size(), 2, 6)) {
            return -1;
        }
        relay.clear();
        relay.addAll(told);
        turns.clear();
        return told.size();
    }

    public int turn(int swimmer) {
        if (noSwimmer(swimmer)) {
            return -1;
        }
        if (turns.size() == 40) {
            return -2;
        }
        if (relay.isEmpty()) {
            return -3;
        }
        turns.add(swimmer);
        return turns.size();
    }

    public int voided() {
        if (relay.isEmpty()) {
            return -3;
        }
        for (int i = 0; i < turns.size(); i++) {
            if (!turns.get(i).equals(relay.get(i % relay.size()))) {
                return i;
            }
        }
        return -4;
    }

    public int calm(int day, boolean is) {
        if (out(day, 0, 15)) {
            return -1;
        }
        return (is ? calmDays.add(day) : calmDays.remove(day)) ? 1 : 0;
    }

    public int slot(int swimmer, int pilot, int slot, int days) {
        if (noSwimmer(swimmer) || out(pilot, 0, 3) || out(slot, 1, 4) || out(days, 0, 65535)) {
            return -1;
        }
        Person p = people.get(swimmer);
        boolean first = p.slot == null;
        p.slot = new int[] {pilot, slot, days};
        return first ? 1 : 0;
    }

    private boolean can(int swimmer, int day, int pilot, int gone) {
        int[] slot = people.get(swimmer).slot;
        return slot != null && slot[0] == pilot && (slot[2] >> day & 1) == 1
                && calmDays.contains(day) && (gone >> swimmer & 1) == 0;
    }

    /** The most from a DAY and PILOT (16 DAYS by 4 PILOTS, one behind the other) on. */
    private int most(int at, int gone, Map<Integer, Integer> known) {
        if (at == 64) {
            return 0;
        }
        Integer before = known.get(at * 1024 + gone);
        if (before != null) {
            return before;
        }
        int most = most(at + 1, gone, known);
        for (int who = 0; who < people.size(); who++) {
            if (can(who, at / 4, at % 4, gone)) {
                most = Math.max(most, 1 + most(at + 1, gone | 1 << who, known));
            }
        }
        known.put(at * 1024 + gone, most);
        return most;
    }

    public int done() {
        return most(0, 0, new HashMap<>());
    }

    public int goes(int day, int pilot) {
        if (out(day, 0, 15) || out(pilot, 0, 3)) {
            return -1;
        }
        Map<Integer, Integer> known = new HashMap<>();
        int gone = 0;
        int who = -2;
        for (int at = 0; at <= 4 * day + pilot; at++) {
            who = -2;
            for (int next : bySlot()) {
                if (who == -2 && can(next, at / 4, at % 4, gone) && most(at, gone, known)
                        == 1 + most(at + 1, gone | 1 << next, known)) {
                    who = next;
                }
            }
            gone |= who == -2 ? 0 : 1 << who;
        }
        return who;
    }

    private List<Integer> bySlot() {
        List<Integer> all = new ArrayList<>();
        for (int slot = 1; slot <= 4; slot++) {
            for (int who = 0; who < people.size(); who++) {
                if (people.get(who).slot != null && people.get(who).slot[1] == slot) {
                    all.add(who);
                }
            }
        }
        return all;
    }

    public int count(int what) {
        int[] all = {people.size(), landCells.size(), ships.size(), counts.size(), turns.size(),
            calmDays.size()};
        return out(what, 0, 5) ? -1 : all[what];
    }

    public int keep(int d, int what, int k) {
        if (out(d, 0, 7) || out(what, 0, 4) || what == 2 || what == 1 && noSwimmer(k)) {
            return -1;
        }
        shelves.remove(d);
        if (what == 1) {
            shelves.put(d, people.get(k).copy());
        } else if (what == 3) {
            List<Integer> all = new ArrayList<>();
            for (Place p : latest == null ? List.<Place>of() : latest.places) {
                all.add(p.x);
                all.add(p.y);
            }
            shelves.put(d, new Line(3, ints(all)));
        } else if (what == 4) {
            shelves.put(d, new Line(4, ints(counts)));
        }
        return 0;
    }

    private static int[] ints(List<Integer> all) {
        return all.stream().mapToInt(Integer::intValue).toArray();
    }

    public int make(int d, int what, int n) {
        if (out(d, 0, 7) || out(what, 3, 4) || n > 60) {
            return -1;
        }
        if (n < 0) {
            return -14;
        }
        shelves.put(d, new Line(what, new int[n]));
        return 0;
    }

    public long element(int d, int i) {
        if (out(d, 0, 7)) {
            throw new IllegalArgumentException();
        }
        if (!(shelves.get(d) instanceof Line line) || out(i, 0, line.items.length - 1)) {
            throw new IllegalStateException();
        }
        return line.items[i];
    }

    public int copy(int d, int i, int e, int j, int n) {
        if (out(d, 0, 7) || out(e, 0, 7)) {
            return -1;
        }
        if (!shelves.containsKey(d) || !shelves.containsKey(e)) {
            return -11;
        }
        if (!(shelves.get(d) instanceof Line a) || !(shelves.get(e) instanceof Line b)
                || a.kind != b.kind) {
            return -12;
        }
        if (n < 0 || i < 0 || j < 0 || (long) i + n > a.items.length
                || (long) j + n > b.items.length) {
            return -13;
        }
        int[] were = a.items.clone();
        for (int k = 0; k < n; k++) {
            b.items[j + k] = were[i + k];
        }
        return n;
    }

    public int weight(int d) {
        if (out(d, 0, 7)) {
            return -1;
        }
        if (!shelves.containsKey(d)) {
            return -11;
        }
        if (!(shelves.get(d) instanceof Person p)) {
            return -12;
        }
        int base = 10 + p.speed + p.feed;
        int[] all = {base, base + 100, base + p.limit, 2 * (base + 100)};
        return all[p.kind];
    }

    public int toss(int d) {
        if (out(d, 0, 7)) {
            return -1;
        }
        if (!shelves.containsKey(d)) {
            return -11;
        }
        if (!(shelves.get(d) instanceof Person p)) {
            return -12;
        }
        return p.kind == 0 ? -15 : p.number;
    }
}
