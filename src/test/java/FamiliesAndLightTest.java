/** Promises 21 to 23: families, family, turn. */
public final class FamiliesAndLightTest {
    private static final int NONE = PlanetoidDesk.NONE;
    private static final Check check = new Check();

    public static void main(String[] args) {
        families();
        familyByNumbers();
        properOrbitsStay();
        extremes();
        longChain();
        measures();
        turnByLooks();
        turnRange();
        turnOfJoined();
        check.end("FamiliesAndLightTest");
    }

    /** Nights 0, 1 and 30 tell an orbit, if there is no error. */
    private static Desk numberDesk() {
        Desk desk = new Desk();
        desk.observatory(0);
        desk.plate(0, 0);
        desk.plate(0, 1);
        desk.plate(0, 30);
        return desk;
    }

    private static int withOrbit(Desk desk, int a, int b, int c) {
        int body = desk.body(desk.dot(0, a, 0));
        desk.link(body, desk.dot(1, Math.floorMod(a + b, 3600), 0));
        desk.link(body, desk.dot(2, Math.floorMod(a + 30 * b + 435 * c, 3600), 0));
        return body;
    }

    private static void numberAll(Desk desk, int... bodies) {
        for (int i = 0; i < bodies.length; i++) {
            check.due("number of body " + bodies[i], desk.number(bodies[i]), i + 1);
        }
    }

    private static void families() {
        Desk desk = numberDesk();
        int[] b = {0, 6, 3, 20, 0, 40};
        int[] c = {0, 0, 0, 0, 1, 0};
        for (int i = 0; i < b.length; i++) {
            withOrbit(desk, 600 * i, b[i], c[i]);
        }
        check.due("none without numbers", desk.families(90), 0);
        check.due("no family without a number", desk.family(0, 90), NONE);
        numberAll(desk, 0, 1, 2, 3, 4);
        int[] measures = {0, 2, 3, 4, 5, 13, 14, 90};
        int[] counts = {5, 5, 3, 3, 2, 2, 1, 1};
        for (int i = 0; i < measures.length; i++) {
            check.due("families by " + measures[i], desk.families(measures[i]), counts[i]);
        }
        check.due("by a chain", desk.family(1, 3), 0);
        check.due("not far enough", desk.family(1, 2), 1);
        check.due("by c", desk.family(4, 5), 0);
        check.due("not by c", desk.family(4, 4), 4);
        check.due("alone", desk.family(3, 13), 3);
        check.due("not alone", desk.family(3, 14), 0);
        check.due("a body without a number", desk.family(5, 90), NONE);
    }

    private static void familyByNumbers() {
        Desk desk = numberDesk();
        for (int i = 0; i < 4; i++) {
            withOrbit(desk, 500 * i, i, 0);
        }
        numberAll(desk, 2, 3, 1, 0);
        for (int i = 0; i < 4; i++) {
            check.due("the lowest number, not the lowest body", desk.family(i, 1), 2);
            check.due("each alone", desk.family(i, 0), i);
        }
    }

    private static void properOrbitsStay() {
        Desk desk = numberDesk();
        withOrbit(desk, 100, 5, 0);
        withOrbit(desk, 900, 8, 0);
        numberAll(desk, 1, 0);
        desk.shift(0, 9);
        desk.unlink(0, 1);
        desk.unlink(0, 2);
        desk.unlink(1, 4);
        check.due("by the proper orbits", desk.families(3), 1);
        check.due("by the proper orbits, not akin", desk.families(2), 2);
        check.due("the lowest number", desk.family(0, 3), 1);
    }

    private static void extremes() {
        Desk desk = numberDesk();
        withOrbit(desk, 100, -40, -2);
        withOrbit(desk, 900, 40, 2);
        withOrbit(desk, 1900, 40, 0);
        withOrbit(desk, 2900, -40, 2);
        numberAll(desk, 0, 1);
        check.due("100 apart", desk.families(90), 2);
        desk.number(2);
        check.due("10 apart from the second, 90 from the first", desk.families(90), 1);
        check.due("but not by 89", desk.families(89), 2);
        check.due("not by 9", desk.families(9), 3);
        check.due("by 10", desk.families(10), 2);
        desk.number(3);
        check.due("20 from the first by c alone", desk.families(19), 3);
        check.due("by 20", desk.families(20), 2);
    }

    private static void longChain() {
        Desk desk = numberDesk();
        int[] b = {0, 19, 1, 18, 2, 17, 3, 16, 4, 15, 5, 14, 6, 13, 7, 12, 8, 11, 9, 10};
        for (int i = 0; i < 20; i++) {
            withOrbit(desk, 170 * i, b[i], 0);
        }
        for (int i = 0; i < 20; i++) {
            desk.number(19 - i);
        }
        check.due("one family of twenty", desk.families(1), 1);
        for (int i = 0; i < 20; i++) {
            check.due("its lowest number, from " + i, desk.family(i, 1), 19);
        }
        check.due("twenty families", desk.families(0), 20);
    }

    private static void measures() {
        Desk desk = numberDesk();
        withOrbit(desk, 0, 0, 0);
        for (int measure : new int[] {-1, 91, Integer.MIN_VALUE, Integer.MAX_VALUE}) {
            check.argument("families by " + measure, () -> desk.families(measure));
            check.argument("family by " + measure + ", without a number too", () -> desk.family(0, measure));
            check.index("the body comes first", () -> desk.family(1, measure));
        }
        for (int body : new int[] {-1, 1, Integer.MIN_VALUE, Integer.MAX_VALUE}) {
            check.index("family of " + body, () -> desk.family(body, 0));
            check.index("turn of " + body, () -> desk.turn(body, false));
        }
    }

    /** A body that stands still, with a look in each of the nights. */
    private static Desk lights(int[] nights, int[] lights) {
        Desk desk = new Desk();
        desk.observatory(0);
        for (int i = 0; i < nights.length; i++) {
            desk.plate(0, nights[i]);
            desk.dot(i, 100, lights[i]);
        }
        desk.body(0);
        for (int i = 1; i < nights.length; i++) {
            desk.link(0, i);
        }
        return desk;
    }

    private static void turnIs(String what, Desk desk, int turn, int fault) {
        check.due("turn, " + what, desk.turn(0, false), turn);
        check.due("fault, " + what, desk.turn(0, true), fault);
    }

    private static void turnByLooks() {
        turnIs("three looks", lights(new int[] {0, 1, 2}, new int[] {5, 5, 5}), NONE, NONE);
        turnIs("all alike", lights(new int[] {0, 1, 2, 3}, new int[] {7, 7, 7, 7}), 2, 0);
        turnIs("to and fro", lights(new int[] {0, 1, 2, 3}, new int[] {10, 20, 10, 20}), 2, 0);
        turnIs("up", lights(new int[] {0, 1, 2, 3}, new int[] {10, 20, 30, 40}), 4, 0);
        turnIs("by three", lights(new int[] {0, 1, 2, 3}, new int[] {10, 20, 30, 10}), 3, 0);
        turnIs("all of one night", lights(new int[] {9, 9, 9, 9}, new int[] {99, 0, 50, 1}), 2, 99);
        turnIs("two nights, alike by 2, 4, 5, 10 and 20", lights(new int[] {0, 20, 0, 20}, new int[] {0, 50, 0, 50}), 3, 0);
        // By 3 and more each night stands alone; by 2 nights 0 and 2 are together: 30 and 2, in all 32.
        turnIs("a fault of two parts", lights(new int[] {0, 0, 1, 1}, new int[] {10, 40, 7, 9}), 2, 32);
    }

    private static void turnRange() {
        int[] nights = new int[30];
        int[] byTwenty = new int[30];
        int[] byTwentyOne = new int[30];
        for (int i = 0; i < 30; i++) {
            nights[i] = i;
            byTwenty[i] = i % 20;
            byTwentyOne[i] = i % 21;
        }
        turnIs("twenty nights", lights(nights, byTwenty), 20, 0);
        Desk desk = lights(nights, byTwentyOne);
        int least = Integer.MAX_VALUE;
        int turn = 0;
        for (int p = 2; p <= 20; p++) {
            int fault = 0;
            for (int rest = 0; rest < p; rest++) {
                int low = 99;
                int high = 0;
                for (int i = rest; i < 30; i += p) {
                    low = Math.min(low, byTwentyOne[i]);
                    high = Math.max(high, byTwentyOne[i]);
                }
                fault += high - low;
            }
            if (fault < least) {
                least = fault;
                turn = p;
            }
        }
        turnIs("21 nights are too many", desk, turn, least);
    }

    private static void turnOfJoined() {
        Desk desk = new Desk();
        desk.observatory(0);
        for (int i = 0; i < 5; i++) {
            desk.plate(0, i);
            desk.dot(i, 100, i % 2 == 0 ? 10 : 30);
            if (i % 2 == 0) {
                desk.body(i);
            }
        }
        desk.link(0, 1);
        desk.link(1, 3);
        turnIs("two looks", desk, NONE, NONE);
        desk.join(0, 1);
        turnIs("with joined ones", desk, 2, 0);
        check.due("the joined one has too few", desk.turn(1, false), NONE);
        int other = desk.body(desk.dot(0, 900, 50));
        for (int i = 1; i < 4; i++) {
            desk.link(other, desk.dot(i, 900, 50 + 10 * (i % 3)));
        }
        check.due("another one by its own looks alone", desk.turn(other, false), 3);
        check.due("its fault", desk.turn(other, true), 0);
        desk.unlink(1, 3);
        turnIs("three looks", desk, NONE, NONE);
        desk.join(0, 2);
        turnIs("three and a joined one", desk, 2, 0);
    }
}
