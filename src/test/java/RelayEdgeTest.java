/** Edges of RELAYS: promises 22 to 24. */
public final class RelayEdgeTest {
    public static void main(String[] args) {
        orderSizes();
        eachOnce();
        turnsAreForty();
        moduloTurns();
        voidFromTheFirst();
        orderDigits();
        orderDigitOfASwimmer();
        orderTakesTurns();
        orderRefused();
        turnAnswers();
        turnRefused();
        turnsFull();
        turnWithoutOrder();
        voidedAnswers();
        voidedNot();
        voidedWithoutOrder();
        Check.finish();
    }

    private static void orderSizes() {
        Check.terms("RELAYS: an ORDER of 2 .. 6 SWIMMERS");
        int[] orders = {0, 0x1, 0x21, 0x321, 0x4321, 0x54321, 0x654321, 0x7654321, 0x87654321};
        for (int size = 0; size < orders.length; size++) {
            Check.due("of " + size, Made.withSwimmers(10).order(orders[size]),
                    size < 2 || size > 6 ? -1 : size);
            if (size < 2 || size > 6) {
                History.FULL.refuses(-1, "order", orders[size]);
                History.NEW.refuses(-1, "order", orders[size]);
            }
        }
    }

    private static void eachOnce() {
        Check.terms("(each once)");
        int[] twice = {0x11, 0x121, 0x211, 0x112, 0xAA, 0x154321, 0x655432, 0xA5432A};
        for (int order : twice) {
            History.FULL.refuses(-1, "order", order);
        }
        Check.due("once each", Made.withSwimmers(10).order(0xA54326), 6);
    }

    private static void turnsAreForty() {
        Check.terms("and a row of turns (told one by one; 40 at most):");
        StraitSwim s = Made.withSwimmers(2);
        s.order(0x21);
        for (int i = 0; i < 40; i++) {
            Check.due("turn", s.turn(i % 2), i + 1);
        }
        Check.due("no 41st", s.turn(0), -2);
        Check.due("40", s.count(4), 40);
    }

    private static void moduloTurns() {
        Check.terms("turn i must be of the one at i modulo how many there are:");
        int[] orders = {0x21, 0x321, 0x4321, 0x54321, 0x654321};
        for (int size = 2; size <= 6; size++) {
            StraitSwim s = Made.withSwimmers(6);
            s.order(orders[size - 2]);
            for (int i = 0; i < 40; i++) {
                s.turn(i % size);
                Check.due("turn " + i + " of " + size, s.voided(), -4);
            }
            StraitSwim wrong = Made.withSwimmers(6);
            wrong.order(orders[size - 2]);
            for (int i = 0; i < size; i++) {
                wrong.turn(i);
            }
            wrong.turn(size % 6 == 0 ? 5 : size);
            Check.due("behind the last comes the first", wrong.voided(), size);
        }
    }

    private static void voidFromTheFirst() {
        Check.terms("VOID from the first that isn't.");
        for (int first : new int[] {0, 1, 2, 38, 39}) {
            StraitSwim s = Made.withSwimmers(3);
            s.order(0x21);
            for (int i = 0; i < 40; i++) {
                Check.due("turns go on", s.turn(i == first ? 2 : i % 2), i + 1);
                Check.due("turn " + i + ", wrong at " + first, s.voided(),
                        i < first ? -4 : first);
            }
        }
        StraitSwim s = Made.withSwimmers(3);
        s.order(0x21);
        s.turn(1);
        s.turn(0);
        Check.due("of two the first", s.voided(), 0);
    }

    private static void orderDigits() {
        Check.promise(22, "An ORDER, told by digits to the base 16, the first the lowest,");
        StraitSwim s = Made.withSwimmers(10);
        Check.due("six", s.order(0x1A2938), 6);
        int[] due = {7, 2, 8, 1, 9, 0};
        for (int i = 0; i < 6; i++) {
            s.turn(due[i]);
            Check.due("the " + i + "th", s.voided(), -4);
        }
        History.FULL.refuses(-1, "order", 0x210);
        History.FULL.refuses(-1, "order", 0x201);
        History.FULL.refuses(-1, "order", 0x2001);
        History.FULL.refuses(-1, "order", 0x120000);
        History.FULL.refuses(-1, "order", 0x1000021);
        History.FULL.refuses(-1, "order", 0x10000021);
        History.FULL.refuses(-1, "order", 0x80000021);
        History.FULL.refuses(-1, "order", Integer.MIN_VALUE);
        History.FULL.refuses(-1, "order", Integer.MAX_VALUE);
        History.FULL.refuses(-1, "order", -1);
    }

    private static void orderDigitOfASwimmer() {
        Check.promise(22, "each 1 more than a SWIMMER;");
        Check.due("SWIMMER 9 is digit A", Made.withSwimmers(10).order(0xA1), 2);
        for (int digit = 0xB; digit <= 0xF; digit++) {
            History.FULL.refuses(-1, "order", digit * 16 + 1);
            History.FULL.refuses(-1, "order", 16 + digit);
        }
        for (int many = 2; many <= 9; many++) {
            Check.due("the last there is", Made.withSwimmers(many).order(16 * many + 1), 2);
            Check.due("the next", Made.withSwimmers(many).order(16 * many + 17), -1);
        }
        Check.due("one SWIMMER", Made.withSwimmers(1).order(0x21), -1);
        Check.due("no SWIMMER", Made.withSwimmers(0).order(0x21), -1);
    }

    private static void orderTakesTurns() {
        Check.promise(22, "turns are none then: how many are in it.");
        StraitSwim s = Made.withSwimmers(6);
        Check.due("two", s.order(0x21), 2);
        for (int i = 0; i < 40; i++) {
            s.turn(1);
        }
        Check.due("six", s.order(0x654321), 6);
        Check.due("no turns", s.count(4), 0);
        Check.due("not VOID", s.voided(), -4);
        Check.due("room again", s.turn(0), 1);
        Check.due("the same ORDER once more", s.order(0x654321), 6);
        Check.due("no turns again", s.count(4), 0);
        Check.due("a shorter one", s.order(0x12), 2);
        s.turn(1);
        s.turn(0);
        s.turn(1);
        Check.due("nothing is left of the longer", s.voided(), -4);
    }

    private static void orderRefused() {
        Check.promise(22, "-1.");
        StraitSwim s = Made.withSwimmers(3);
        s.order(0x21);
        s.turn(0);
        Check.due("refused", s.order(0x33), -1);
        Check.due("the turn stays", s.count(4), 1);
        s.turn(1);
        Check.due("the ORDER stays", s.voided(), -4);
        StraitSwim none = Made.withSwimmers(3);
        none.order(0x41);
        Check.due("no ORDER by a refused one", none.voided(), -3);
        none.order(0x1);
        Check.due("none by one of one", none.turn(0), -3);
    }

    private static void turnAnswers() {
        Check.promise(23, "A turn of a SWIMMER: how many turns there are.");
        Edges.within(0, 4, 0, "turn", 0);
        StraitSwim s = Made.withSwimmers(10);
        s.order(0x21);
        Check.due("the first", s.turn(0), 1);
        Check.due("one that isn't in the ORDER", s.turn(9), 2);
        Check.due("turns go on when VOID", s.turn(0), 3);
    }

    private static void turnRefused() {
        Check.promise(23, "-1;");
        for (History h : History.values()) {
            h.refuses(-1, "turn", -1);
            h.refuses(-1, "turn", h == History.NEW ? 0 : h == History.SOME ? 5 : 10);
            h.refuses(-1, "turn", Integer.MIN_VALUE);
            h.refuses(-1, "turn", Integer.MAX_VALUE);
        }
    }

    private static void turnsFull() {
        Check.promise(23, "-2: there are 40;");
        StraitSwim s = Made.withSwimmers(2);
        s.order(0x21);
        for (int i = 0; i < 39; i++) {
            s.turn(i % 2);
        }
        Check.due("the 40th", s.turn(1), 40);
        Check.due("the 41st", s.turn(0), -2);
        Check.due("it is not VOID by that", s.voided(), -4);
        for (int k = 0; k < 10; k++) {
            History.FULL.refuses(-2, "turn", k);
        }
    }

    private static void turnWithoutOrder() {
        Check.promise(23, "-3: there is no ORDER.");
        StraitSwim s = Made.withSwimmers(10);
        Check.due("no ORDER", s.turn(0), -3);
        Check.due("no ORDER, the last SWIMMER", s.turn(9), -3);
        Check.due("no turns", s.count(4), 0);
        s.order(0x21);
        Check.due("an ORDER", s.turn(0), 1);
    }

    private static void voidedAnswers() {
        Check.promise(24, "The turn from which it is VOID;");
        StraitSwim s = Made.withSwimmers(3);
        s.order(0x321);
        s.turn(0);
        s.turn(1);
        s.turn(0);
        Check.due("turn 2", s.voided(), 2);
        s.turn(0);
        Check.due("turn 2 still", s.voided(), 2);
        History.SOME.onlyAnswers("voided");
    }

    private static void voidedNot() {
        Check.promise(24, "-4: it isn't.");
        StraitSwim s = Made.withSwimmers(2);
        s.order(0x12);
        Check.due("no turns", s.voided(), -4);
        s.turn(1);
        Check.due("the first", s.voided(), -4);
        s.turn(0);
        Check.due("the second", s.voided(), -4);
        s.turn(1);
        Check.due("the first again", s.voided(), -4);
    }

    private static void voidedWithoutOrder() {
        Check.promise(24, "-3: there is no ORDER.");
        History.NEW.refuses(-3, "voided");
        Check.due("SWIMMERS, but no ORDER", Made.withSwimmers(10).voided(), -3);
    }
}
