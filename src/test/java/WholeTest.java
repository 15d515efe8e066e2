import java.util.Random;

/**
 * What the document says in its first line: for each part of it, what several calls answer must
 * agree, in strange straits too. Unlike the Model, this asks the class alone.
 */
public final class WholeTest {
    private static final int[] EAST = {1, 1, 0, -1, -1, -1, 0, 1};
    private static final int[] NORTH = {0, 1, 1, 1, 0, -1, -1, -1};
    private static final int LANDED = 0;
    private static final int PULLED_OUT = 1;
    private static final int DRIFTED = 2;
    private static final int LOST = 3;

    private static final int[] ends = new int[4];

    public static void main(String[] args) {
        for (int seed = 0; seed < 400; seed++) {
            steps(seed);
            landsOrIsPulledOut(seed);
            coldAndFeeding(seed);
            stopRule(seed);
            relay(seed);
            ships(seed);
            neap(seed);
        }
        for (int seed = 0; seed < 25; seed++) {
            bestOfAll(seed);
        }
        seenEnds();
        Check.finish();
    }

    /** All four ENDS must have been seen, or the runs would show little. */
    private static void seenEnds() {
        Check.terms("where and when they land or are pulled out,");
        for (int end = 0; end < 4; end++) {
            Check.holds("END " + end + " was seen " + ends[end] + " times", ends[end] >= 20);
        }
    }

    /** LAND and a tide, and SWIMMER 0 with a SWIM begun anywhere in WATER. */
    private static final class Crossing {
        final StraitSwim s = new StraitSwim();
        final int limit;
        final int feed;
        final int quarter;
        final int aim;
        final int end;
        final int quarters;

        Crossing(int seed) {
            Random random = new Random(seed);
            for (int at = 0; at < 4; at++) {
                int column = random.nextInt(24);
                s.land(random.nextInt(12), column, Math.min(23, column + random.nextInt(12)),
                        seed % 5 != 0);
            }
            boolean slow = seed % 3 == 0;
            for (int at = 0; at < (slow ? 6 : 18); at++) {
                s.tide(random.nextInt(3), random.nextInt(12), random.nextInt(19) - 9,
                        random.nextInt(19) - 9);
            }
            limit = slow ? 400 : 1 + random.nextInt(400);
            s.swimmer(random.nextInt(4), slow ? 1 : 1 + random.nextInt(20), limit);
            feed = slow ? 1 : random.nextInt(8);
            s.feed(0, feed);
            s.set(0, slow ? random.nextInt(3) : random.nextInt(21));
            quarter = random.nextInt(48);
            aim = random.nextInt(8);
            int got = -4;
            while (got == -4) {
                got = s.swim(0, random.nextInt(240), random.nextInt(120), quarter, aim);
            }
            end = got;
            quarters = s.ended(2);
        }

        int x(int t) {
            return s.where(t) / 1000;
        }

        int y(int t) {
            return s.where(t) % 1000;
        }
    }

    private static void steps(int seed) {
        Check.terms("Over a strait by arms: swimmers stepped by quarter hours through a tide that"
                + " turns,");
        Crossing c = new Crossing(seed);
        ends[c.end]++;
        int x = c.x(0);
        int y = c.y(0);
        for (int t = 0; t < c.quarters; t++) {
            int pace = c.s.pace(0, t, 0);
            int along = c.aim % 2 == 0 ? pace : pace * 7 / 10;
            long nextX = x + EAST[c.aim] * along + Check.carries(c.s, x, y, c.quarter + t, 0);
            long nextY = y + NORTH[c.aim] * along + Check.carries(c.s, x, y, c.quarter + t, 1);
            boolean out = nextX < 0 || nextX > 239 || nextY < 0 || nextY > 119;
            boolean drifts = c.end == DRIFTED && t == c.quarters - 1;
            Check.holds(seed + ": out of the PLACES if DRIFTED, in quarter " + t, out == drifts);
            int place = c.s.where(t + 1);
            Check.due(seed + ": behind quarter " + t, place,
                    out ? 1000 * x + y : 1000 * nextX + nextY);
            x = place / 1000;
            y = place % 1000;
        }
    }

    private static void landsOrIsPulledOut(int seed) {
        Check.terms("where and when they land or are pulled out,");
        Crossing c = new Crossing(seed);
        for (int t = 0; t < c.quarters; t++) {
            Check.due(seed + ": in WATER ahead of quarter " + t, c.s.isLand(c.x(t), c.y(t)), 0);
        }
        Check.due(seed + ": in LAND if LANDED", c.s.isLand(c.s.ended(0), c.s.ended(1)),
                c.end == LANDED ? 1 : 0);
        Check.due(seed + ": at its end", c.s.where(c.quarters), 1000 * c.s.ended(0) + c.s.ended(1));
        boolean tooCold = c.s.ended(3) >= c.limit;
        Check.holds(seed + ": too cold if PULLED OUT", c.end == LANDED || c.end == DRIFTED
                || tooCold == (c.end == PULLED_OUT));
        Check.holds(seed + ": 100 quarters if LOST", c.end != LOST || c.quarters == 100);
    }

    private static void coldAndFeeding(int seed) {
        Check.terms("cold and feeding,");
        Crossing c = new Crossing(seed);
        int cold = 0;
        int counted = c.end == DRIFTED ? c.quarters - 1 : c.quarters;
        for (int t = 0; t < counted; t++) {
            Check.holds(seed + ": not too cold ahead of quarter " + t, cold < c.limit);
            cold += c.s.pace(0, t, 1);
            if (c.feed > 0 && t % c.feed == c.feed - 1) {
                cold = Math.max(0, cold - 3);
            }
        }
        Check.due(seed + ": COLD at its end", c.s.ended(3), cold);
    }

    /** All 48 by 8 starts; an object for each quarter, as they are more than 512 calls. */
    private static void bestOfAll(int seed) {
        Check.terms("the best hour and aim of all,");
        Crossing c = new Crossing(seed);
        int x = c.x(0);
        int y = c.y(0);
        int fewest = 101;
        int best = -4;
        int[] found = new int[4];
        for (int quarter = 0; quarter < 48; quarter++) {
            StraitSwim s = new Crossing(seed).s;
            for (int aim = 0; aim < 8; aim++) {
                int end = s.swim(0, x, y, quarter, aim);
                found[end]++;
                if (end == LANDED && s.ended(2) < fewest) {
                    fewest = s.ended(2);
                    best = 10 * quarter + aim;
                }
            }
        }
        Check.due(seed + ": THE BEST START", c.s.best(0, x, y), best);
        for (int end = 0; end < 4; end++) {
            Check.due(seed + ": END " + end, c.s.ends(0, x, y, end), found[end]);
        }
    }

    private static void stopRule(int seed) {
        Check.terms("a stop rule on strokes that are counted,");
        Random random = new Random(seed);
        StraitSwim s = new StraitSwim();
        int[] counts = new int[random.nextInt(61)];
        for (int i = 0; i < counts.length; i++) {
            counts[i] = random.nextInt(seed % 2 == 0 ? 100 : 8);
            s.stroke(counts[i]);
        }
        int k = 1 + random.nextInt(seed % 3 == 0 ? 10 : 3);
        int least = -4;
        for (int f = 99; f >= 0; f--) {
            int due = firstRun(counts, f, k);
            Check.due(seed + ": stop(" + f + ", " + k + ")", s.stop(f, k), due);
            least = due >= 0 ? f : least;
        }
        Check.due(seed + ": floor(" + k + ")", s.floor(k), least);
    }

    private static int firstRun(int[] counts, int f, int k) {
        for (int last = k - 1; last < counts.length; last++) {
            boolean below = true;
            for (int i = last - k + 1; i <= last; i++) {
                below &= counts[i] < f;
            }
            if (below) {
                return last;
            }
        }
        return -4;
    }

    private static void relay(int seed) {
        Check.terms("relays in turns that must be just so,");
        Random random = new Random(seed);
        StraitSwim s = Made.withSwimmers(10);
        int size = 2 + random.nextInt(5);
        int step = 1 + 2 * random.nextInt(2);
        int first = random.nextInt(10);
        int digits = 0;
        for (int i = size - 1; i >= 0; i--) {
            digits = digits << 4 | 1 + (first + step * i) % 10;
        }
        Check.due(seed + ": how many are in it", s.order(digits), size);
        int wrongOne = random.nextInt(60);
        for (int i = 0; i < 40; i++) {
            int right = (first + step * (i % size)) % 10;
            s.turn(i == wrongOne ? (right + 1 + random.nextInt(9)) % 10 : right);
            Check.due(seed + ": behind turn " + i, s.voided(), i >= wrongOne ? wrongOne : -4);
        }
    }

    private static void ships(int seed) {
        Check.terms("ships in lanes held against a swim,");
        Crossing c = new Crossing(seed);
        Random random = new Random(seed);
        int nearness = 1 + random.nextInt(60);
        c.s.set(1, nearness);
        int bits = 0;
        // Two SHIPS: their places are asked for each quarter, by two calls each.
        for (int ship = 0; ship < 2; ship++) {
            int x = random.nextInt(240);
            int y = random.nextInt(120);
            int east = random.nextInt(41) - 20;
            int north = random.nextInt(41) - 20;
            c.s.ship(x, y, east, north);
            int due = -4;
            for (int t = c.quarters - 1; t >= 0; t--) {
                int apartEast = Math.abs(x + (t + 1) * east - c.x(t + 1));
                int apartNorth = Math.abs(y + (t + 1) * north - c.y(t + 1));
                due = apartEast < nearness && apartNorth < nearness ? t : due;
            }
            Check.due(seed + ": SHIP " + ship, c.s.near(ship), due);
            bits |= due >= 0 ? 1 << ship : 0;
        }
        Check.due(seed + ": lanes()", c.s.lanes(), bits);
    }

    private static void neap(int seed) {
        Check.terms("and who goes on which calm day of a neap so that the most swims are done.");
        Random random = new Random(seed);
        StraitSwim s = Made.withSwimmers(10);
        int calm = random.nextInt(65536) & (seed % 2 == 0 ? 255 : 65535);
        for (int day = 0; day < 16; day++) {
            s.calm(day, (calm >> day & 1) != 0);
        }
        int[] pilots = new int[10];
        int[] days = new int[10];
        for (int who = 0; who < 10; who++) {
            pilots[who] = random.nextInt(seed % 3 == 0 ? 1 : 4);
            days[who] = random.nextInt(65536) & random.nextInt(65536) & random.nextInt(65536);
            s.slot(who, pilots[who], 1 + random.nextInt(4), days[who]);
        }
        int gone = 0;
        for (int day = 0; day < 16; day++) {
            for (int pilot = 0; pilot < 4; pilot++) {
                int who = s.goes(day, pilot);
                if (who != -2) {
                    Check.holds(seed + ": " + who + " goes once, with its PILOT, on a CALM DAY on"
                            + " which it can", (gone >> who & 1) == 0 && pilots[who] == pilot
                            && (days[who] & calm & 1 << day) != 0);
                    gone |= 1 << who;
                }
            }
        }
        Check.due(seed + ": DONE", s.done(), Integer.bitCount(gone));
        Check.due(seed + ": DONE, by trying all", s.done(), most(0, calm, 0, pilots, days));
    }

    /** By trying for each SWIMMER every DAY, and none; taken is of each PILOT's DAYS. */
    private static int most(int who, int calm, long taken, int[] pilots, int[] days) {
        if (who == 10) {
            return 0;
        }
        int most = most(who + 1, calm, taken, pilots, days);
        for (int day = 0; day < 16; day++) {
            long bit = 1L << 16 * pilots[who] + day;
            if ((days[who] & calm & 1 << day) != 0 && (taken & bit) == 0) {
                most = Math.max(most, 1 + most(who + 1, calm, taken | bit, pilots, days));
            }
        }
        return most;
    }
}
