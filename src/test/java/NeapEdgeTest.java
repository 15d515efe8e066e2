/** Edges of the DAYS of a neap and of what is counted: promises 25 to 29. */
public final class NeapEdgeTest {
    public static void main(String[] args) {
        days();
        pilots();
        slotsAndDays();
        noneAtFirst();
        oneSwimmerOnce();
        onePilotsDayOnce();
        ownPilotAlone();
        leastSlotThenNumber();
        theMostCanStillBeHad();
        thoseBeforeStay();
        nobody();
        calmAnswers();
        calmRefused();
        slotAnswers();
        slotRefused();
        doneEdges();
        goesAnswers();
        goesNobody();
        goesRefused();
        counts();
        countRefused();
        Check.finish();
    }

    private static StraitSwim calmed(int many, int calmDays) {
        StraitSwim s = Made.withSwimmers(many);
        for (int day = 0; day < 16; day++) {
            s.calm(day, (calmDays >> day & 1) != 0);
        }
        return s;
    }

    private static void days() {
        Check.terms("DAYS 0 .. 15 of a neap are CALM, or not (at first).");
        Edges.within(0, 15, 0, "calm", 9, true);
        Edges.within(0, 15, 0, "calm", 9, false);
        Edges.within(0, 15, 0, "goes", 9, 0);
        StraitSwim s = new StraitSwim();
        for (int day = 0; day < 16; day++) {
            Check.due("DAY " + day + " is not CALM at first", s.calm(day, false), 0);
        }
        for (int day = 0; day < 16; day++) {
            StraitSwim one = calmed(1, 1 << day);
            one.slot(0, 0, 1, 65535);
            for (int other = 0; other < 16; other++) {
                Check.due("CALM on DAY " + day + ", goes(" + other + ")", one.goes(other, 0),
                        other == day ? 0 : -2);
            }
        }
    }

    private static void pilots() {
        Check.terms("PILOTS 0 .. 3 take one SWIM a DAY each.");
        Edges.within(0, 3, 1, "slot", 0, 0, 1, 1);
        Edges.within(0, 3, 1, "goes", 9, 0);
        for (int pilot = 0; pilot < 4; pilot++) {
            StraitSwim s = calmed(3, 1);
            s.slot(0, pilot, 1, 1);
            s.slot(1, pilot, 1, 1);
            s.slot(2, pilot, 1, 1);
            Check.due("one of three", s.done(), 1);
            for (int other = 0; other < 4; other++) {
                Check.due("of PILOT " + pilot + ", goes(0, " + other + ")", s.goes(0, other),
                        other == pilot ? 0 : -2);
            }
            s.calm(15, true);
            s.slot(1, pilot, 1, 32768);
            Check.due("one a DAY", s.done(), 2);
        }
    }

    private static void slotsAndDays() {
        Check.terms("A SWIMMER has a PILOT, a SLOT 1 .. 4 and DAYS on which it can (bits);");
        Edges.within(1, 4, 2, "slot", 0, 0, 1, 1);
        Edges.within(0, 65535, 3, "slot", 0, 0, 1, 1);
        for (int bit = 0; bit < 16; bit++) {
            StraitSwim s = calmed(1, 65535);
            s.slot(0, 3, 4, 1 << bit);
            for (int day = 0; day < 16; day++) {
                Check.due("bit " + bit + ", DAY " + day, s.goes(day, 3), day == bit ? 0 : -2);
            }
        }
    }

    private static void noneAtFirst() {
        Check.terms("none at first.");
        StraitSwim s = calmed(10, 65535);
        Check.due("nobody can", s.done(), 0);
        for (int day = 0; day < 16; day++) {
            for (int pilot = 0; pilot < 4; pilot++) {
                Check.due("nobody goes", s.goes(day, pilot), -2);
            }
        }
        for (int k = 0; k < 10; k++) {
            Check.due("SWIMMER " + k + " had none", s.slot(k, 0, 1, 0), 1);
        }
    }

    private static void oneSwimmerOnce() {
        Check.terms("DONE: the most SWIMS that can be on CALM DAYS, one SWIMMER once,");
        StraitSwim s = calmed(1, 65535);
        s.slot(0, 0, 1, 65535);
        Check.due("once on sixteen DAYS", s.done(), 1);
        Check.due("on the first", s.goes(0, 0), 0);
        for (int day = 1; day < 16; day++) {
            Check.due("not on DAY " + day, s.goes(day, 0), -2);
        }
        Check.due("its DAYS are not CALM", notCalm().done(), 0);
    }

    private static StraitSwim notCalm() {
        StraitSwim s = calmed(1, 0x5555);
        s.slot(0, 0, 1, 0xAAAA);
        return s;
    }

    private static void onePilotsDayOnce() {
        Check.terms("one PILOT's DAY once,");
        StraitSwim s = calmed(10, 0x8001);
        for (int k = 0; k < 10; k++) {
            s.slot(k, 0, 1, 0x8001);
        }
        Check.due("ten SWIMMERS, two DAYS", s.done(), 2);
        for (int k = 0; k < 10; k++) {
            s.slot(k, k % 4, 1, 0x8001);
        }
        Check.due("four PILOTS, two DAYS", s.done(), 8);
    }

    private static void ownPilotAlone() {
        Check.terms("by PILOTS alone;");
        StraitSwim s = calmed(4, 1);
        s.slot(0, 0, 1, 1);
        s.slot(1, 0, 1, 1);
        Check.due("the other PILOTS take none of them", s.done(), 1);
        Check.due("not PILOT 1", s.goes(0, 1), -2);
        s.slot(1, 3, 1, 1);
        Check.due("another PILOT", s.done(), 2);
        Check.due("PILOT 3", s.goes(0, 3), 1);
    }

    private static void leastSlotThenNumber() {
        Check.terms("WHO GOES: by DAYS, PILOTS, the SWIMMER with the least SLOT, then number,");
        StraitSwim s = calmed(10, 1);
        s.slot(0, 0, 4, 1);
        s.slot(1, 0, 3, 1);
        s.slot(5, 0, 2, 1);
        s.slot(8, 0, 1, 1);
        s.slot(9, 0, 1, 1);
        Check.due("SLOT 1, of two the least number", s.goes(0, 0), 8);
        s.slot(8, 0, 4, 1);
        Check.due("SLOT 1, the last SWIMMER", s.goes(0, 0), 9);
        s.slot(9, 0, 4, 1);
        Check.due("SLOT 2", s.goes(0, 0), 5);
        s.slot(5, 0, 4, 1);
        Check.due("SLOT 3", s.goes(0, 0), 1);
        s.slot(1, 0, 4, 1);
        Check.due("all of SLOT 4: the least number", s.goes(0, 0), 0);
        s.slot(0, 1, 4, 1);
        Check.due("but that of another PILOT", s.goes(0, 0), 1);
    }

    private static void theMostCanStillBeHad() {
        Check.terms("with whom the most can still be had");
        StraitSwim s = calmed(2, 0x8001);
        s.slot(0, 0, 1, 0x8001);
        s.slot(1, 0, 4, 1);
        Check.due("the least SLOT must wait for the last DAY", s.goes(0, 0), 1);
        Check.due("and goes then", s.goes(15, 0), 0);
        s.calm(15, false);
        Check.due("without that DAY it goes first", s.goes(0, 0), 0);
        Check.due("and the other not at all", s.goes(15, 0), -2);
        s.calm(15, true);
        s.slot(1, 0, 4, 0x8000);
        Check.due("each on its own", s.goes(0, 0), 0);
        Check.due("the last DAY", s.goes(15, 0), 1);
        StraitSwim last = calmed(2, 0xC000);
        last.slot(0, 0, 1, 0xC000);
        last.slot(1, 0, 4, 0x4000);
        Check.due("the last DAY but one", last.goes(14, 0), 1);
        Check.due("the DAY behind it", last.goes(15, 0), 0);
    }

    private static void thoseBeforeStay() {
        Check.terms("(those before it staying),");
        StraitSwim s = calmed(10, 65535);
        for (int k = 0; k < 10; k++) {
            s.slot(k, 2, 1, 65535);
        }
        for (int day = 0; day < 16; day++) {
            Check.due("by number, DAY " + day, s.goes(day, 2), day < 10 ? day : -2);
        }
        for (int k = 0; k < 10; k++) {
            s.slot(k, 2, 1 + (9 - k) % 4, 65535);
        }
        int[] due = {1, 5, 9, 0, 4, 8, 3, 7, 2, 6};
        for (int day = 0; day < 16; day++) {
            Check.due("by SLOT, DAY " + day, s.goes(day, 2), day < 10 ? due[day] : -2);
        }
        Check.due("asked for again", s.goes(0, 2), 1);
    }

    private static void nobody() {
        Check.terms("or nobody, if with none.");
        StraitSwim s = calmed(2, 0x7);
        s.slot(0, 0, 1, 0x1);
        s.slot(1, 0, 1, 0x4);
        Check.due("DAY 0", s.goes(0, 0), 0);
        Check.due("nobody can on DAY 1", s.goes(1, 0), -2);
        Check.due("DAY 2", s.goes(2, 0), 1);
        s.calm(0, false);
        Check.due("a DAY that is not CALM", s.goes(0, 0), -2);
        Check.due("DONE", s.done(), 1);
    }

    private static void calmAnswers() {
        Check.promise(25, "A DAY is CALM, or not: 1 if it was otherwise, else 0.");
        StraitSwim s = new StraitSwim();
        for (int day : new int[] {0, 15}) {
            Check.due("not, as it was", s.calm(day, false), 0);
            Check.due("CALM", s.calm(day, true), 1);
            Check.due("CALM, as it was", s.calm(day, true), 0);
            Check.due("not", s.calm(day, false), 1);
            Check.due("not, as it was then", s.calm(day, false), 0);
        }
        for (int day = 0; day < 16; day++) {
            Check.due("each DAY for itself", s.calm(day, true), 1);
            Check.due("CALM DAYS", s.count(5), day + 1);
        }
    }

    private static void calmRefused() {
        Check.promise(25, "-1.");
        for (int day : new int[] {-1, 16, 31, 32, 48, Integer.MIN_VALUE, Integer.MAX_VALUE}) {
            History.SOME.refuses(-1, "calm", day, true);
            History.SOME.refuses(-1, "calm", day, false);
            History.NEW.refuses(-1, "calm", day, true);
        }
    }

    private static void slotAnswers() {
        Check.promise(26, "A SWIMMER has a PILOT, SLOT, DAYS (bits 0 .. 65535):"
                + " 1 if it had none, else 0.");
        StraitSwim s = calmed(10, 65535);
        Check.due("the first, no DAYS", s.slot(0, 0, 1, 0), 1);
        Check.due("it had one, though without DAYS", s.slot(0, 0, 1, 0), 0);
        Check.due("the last, all DAYS", s.slot(9, 3, 4, 65535), 1);
        Check.due("it had one", s.slot(9, 3, 4, 65535), 0);
        Check.due("one without DAYS can't", s.goes(0, 0), -2);
        Check.due("another PILOT", s.slot(9, 2, 1, 32768), 0);
        Check.due("not with the one before", s.goes(15, 3), -2);
        Check.due("but with this", s.goes(15, 2), 9);
        Check.due("and not on the DAYS before", s.goes(0, 2), -2);
    }

    private static void slotRefused() {
        Check.promise(26, "-1.");
        StraitSwim s = calmed(1, 1);
        Check.due("SLOT 5", s.slot(0, 0, 5, 1), -1);
        Check.due("it has none by a refused one", s.done(), 0);
        Check.due("it had none", s.slot(0, 0, 1, 1), 1);
        for (History h : new History[] {History.SOME, History.FULL}) {
            h.refuses(-1, "slot", -1, 0, 1, 1);
            h.refuses(-1, "slot", h == History.SOME ? 5 : 10, 0, 1, 1);
            h.refuses(-1, "slot", 2, -1, 1, 65535);
            h.refuses(-1, "slot", 2, 4, 1, 65535);
            h.refuses(-1, "slot", 2, 3, 0, 65535);
            h.refuses(-1, "slot", 2, 3, 5, 65535);
            h.refuses(-1, "slot", 2, 3, 1, -1);
            h.refuses(-1, "slot", 2, 3, 1, 65536);
        }
        History.NEW.refuses(-1, "slot", 0, 0, 1, 1);
    }

    private static void doneEdges() {
        Check.promise(27, "DONE.");
        Check.due("no SWIMMERS", new StraitSwim().done(), 0);
        StraitSwim s = calmed(10, 0);
        for (int k = 0; k < 10; k++) {
            s.slot(k, 3, 4, 65535);
        }
        Check.due("no CALM DAY", s.done(), 0);
        for (int day = 15; day >= 0; day--) {
            s.calm(day, true);
            Check.due("from DAY " + day + " on", s.done(), Math.min(10, 16 - day));
        }
        // Each can on two DAYS, and the last one's only DAY is the first: all must make room.
        StraitSwim chain = calmed(10, 0x3FF);
        for (int k = 0; k < 9; k++) {
            chain.slot(k, 1, 1, 3 << k);
        }
        chain.slot(9, 1, 1, 1);
        Check.due("all ten by one chain", chain.done(), 10);
        chain.calm(9, false);
        Check.due("one DAY less", chain.done(), 9);
        History.FULL.onlyAnswers("done");
    }

    private static void goesAnswers() {
        Check.promise(28, "WHO GOES with a PILOT on a DAY;");
        StraitSwim s = calmed(10, 0x8001);
        s.slot(0, 0, 1, 0x8000);
        s.slot(9, 3, 4, 0x1);
        Check.due("SWIMMER 0, PILOT 0, DAY 15", s.goes(15, 0), 0);
        Check.due("SWIMMER 9, PILOT 3, DAY 0", s.goes(0, 3), 9);
        for (int day = 0; day < 16; day++) {
            History.FULL.onlyAnswers("goes", day, day % 4);
        }
    }

    private static void goesNobody() {
        Check.promise(28, "-2: nobody.");
        StraitSwim s = calmed(10, 0x8001);
        s.slot(0, 0, 1, 0x8000);
        Check.due("another DAY", s.goes(0, 0), -2);
        Check.due("another PILOT", s.goes(15, 3), -2);
        Check.due("a new object", new StraitSwim().goes(0, 0), -2);
        Check.due("a new object, the last", new StraitSwim().goes(15, 3), -2);
    }

    private static void goesRefused() {
        Check.promise(28, "-1.");
        for (History h : History.values()) {
            h.refuses(-1, "goes", -1, 0);
            h.refuses(-1, "goes", 16, 0);
            h.refuses(-1, "goes", 0, -1);
            h.refuses(-1, "goes", 0, 4);
        }
    }

    private static void counts() {
        Check.promise(29, "0 SWIMMERS, 1 CELLS of LAND, 2 SHIPS, 3 counts, 4 turns, 5 CALM DAYS;");
        Edges.within(0, 5, 0, "count", 0);
        int[] some = {5, 24, 2, 3, 4, 3};
        int[] full = {10, 24, 8, 60, 40, 3};
        for (int what = 0; what < 6; what++) {
            Check.due("of none, count(" + what + ")", new StraitSwim().count(what), 0);
            Check.due("of some, count(" + what + ")", History.SOME.made().count(what), some[what]);
            Check.due("of all, count(" + what + ")", History.FULL.made().count(what), full[what]);
            History.SOME.onlyAnswers("count", what);
        }
        StraitSwim s = new StraitSwim();
        for (int row = 0; row < 12; row++) {
            s.land(row, 0, 23, true);
        }
        Check.due("all CELLS", s.count(1), 288);
        Check.due("all CALM DAYS", calmed(0, 65535).count(5), 16);
    }

    private static void countRefused() {
        Check.promise(29, "-1 for others.");
        for (History h : History.values()) {
            for (int what : new int[] {-1, 6, Integer.MIN_VALUE, Integer.MAX_VALUE}) {
                h.refuses(-1, "count", what);
            }
        }
    }
}
