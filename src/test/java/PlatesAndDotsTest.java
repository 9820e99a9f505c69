/** Promises 1 to 6: a new object, observatory, plate, dot, shift, ofDot. */
public final class PlatesAndDotsTest {
    private static final int NONE = PlanetoidDesk.NONE;
    private static final int MIN = Integer.MIN_VALUE;
    private static final int MAX = Integer.MAX_VALUE;
    private static final Check check = new Check();

    public static void main(String[] args) {
        newObject();
        observatory();
        plate();
        dot();
        shift();
        ofDot();
        thrownCallsChangeNothing();
        check.end("PlatesAndDotsTest");
    }

    private static void newObject() {
        Desk desk = new Desk();
        check.index("no observatory at first", () -> desk.plate(0, 0));
        check.index("no plate at first", () -> desk.dot(0, 0, 0));
        check.index("no dot at first", () -> desk.ofDot(0, 0));
        check.index("no dot for a body at first", () -> desk.body(0));
        check.index("no body at first", () -> desk.ofBody(0, 0));
        check.due("no families at first", desk.families(0), 0);
        for (int zone = 0; zone < 9; zone++) {
            check.due("no shift at first", desk.shift(zone, 0), 0);
        }
        Desk other = new Desk();
        desk.observatory(0);
        check.index("objects share nothing", () -> other.plate(0, 0));
        check.due("NONE", NONE, -1);
    }

    private static void observatory() {
        Desk desk = new Desk();
        for (int error : new int[] {-1, 10, MIN, MAX}) {
            check.argument("observatory(" + error + ")", () -> desk.observatory(error));
        }
        int[] errors = {0, 9, 1, 9, 0, 5};
        for (int i = 0; i < 6; i++) {
            check.due("observatory " + i, desk.observatory(errors[i]), i);
        }
        check.state("a seventh observatory", () -> desk.observatory(0));
        check.argument("a seventh observatory with a wrong error", () -> desk.observatory(10));
        for (int i = 0; i < 6; i++) {
            desk.plate(i, 0);
            desk.dot(i, 1000, 0);
            desk.body(i);
            check.due("the error tells the places a", desk.orbits(i), 405 * (2 * errors[i] + 1));
        }
    }

    private static void plate() {
        Desk desk = new Desk();
        desk.observatory(0);
        for (int observatory : new int[] {-1, 1, MIN, MAX}) {
            check.index("plate of observatory " + observatory, () -> desk.plate(observatory, 0));
            check.index("the observatory comes first", () -> desk.plate(observatory, -1));
        }
        for (int night : new int[] {-1, 1000, MIN, MAX}) {
            check.argument("plate of night " + night, () -> desk.plate(0, night));
        }
        for (int i = 0; i < 30; i++) {
            check.due("plate " + i, desk.plate(0, i == 29 ? 999 : i), i);
        }
        check.state("a plate too many", () -> desk.plate(0, 0));
        check.index("a plate too many of no observatory", () -> desk.plate(1, 0));
        check.argument("a plate too many of no night", () -> desk.plate(0, 1000));
        desk.dot(29, 0, 0);
        check.due("the night of the last plate", desk.ofDot(0, 0), 999);
    }

    private static void dot() {
        Desk desk = new Desk();
        desk.observatory(0);
        desk.plate(0, 7);
        for (int plate : new int[] {-1, 1, MIN, MAX}) {
            check.index("dot on plate " + plate, () -> desk.dot(plate, 0, 0));
            check.index("the plate comes first", () -> desk.dot(plate, -1, 100));
        }
        for (int place : new int[] {-1, 3600, MIN, MAX}) {
            check.argument("dot at " + place, () -> desk.dot(0, place, 0));
        }
        for (int light : new int[] {-1, 100, MIN, MAX}) {
            check.argument("dot of light " + light, () -> desk.dot(0, 0, light));
        }
        for (int i = 0; i < 60; i++) {
            check.due("dot " + i, desk.dot(0, i == 59 ? 3599 : i, i == 59 ? 99 : i), i);
        }
        check.state("a dot too many", () -> desk.dot(0, 0, 0));
        check.index("a dot too many on no plate", () -> desk.dot(1, 0, 0));
        check.argument("a dot too many at no place", () -> desk.dot(0, 3600, 0));
        check.argument("a dot too many of no light", () -> desk.dot(0, 0, 100));
        check.due("the place of the last dot", desk.ofDot(59, 1), 3599);
        check.due("the light of the last dot", desk.ofDot(59, 2), 99);
    }

    private static void shift() {
        Desk desk = new Desk();
        for (int zone : new int[] {-1, 9, MIN, MAX}) {
            check.index("shift of zone " + zone, () -> desk.shift(zone, 0));
            check.index("the zone comes first", () -> desk.shift(zone, 10));
        }
        for (int shift : new int[] {-10, 10, MIN, MAX}) {
            check.argument("shift by " + shift, () -> desk.shift(0, shift));
        }
        check.due("the shift before the first", desk.shift(0, 9), 0);
        check.due("the shift before", desk.shift(0, -9), 9);
        check.due("the shift before, of less than 0", desk.shift(0, 3), -9);
        check.due("the shift of another zone", desk.shift(8, 1), 0);
        linksAndJoinsStay();
    }

    private static void linksAndJoinsStay() {
        Desk desk = new Desk();
        desk.observatory(0);
        for (int i = 0; i < 3; i++) {
            desk.plate(0, i);
        }
        desk.dot(0, 380, 0);
        desk.dot(1, 395, 0);
        desk.dot(2, 410, 0);
        desk.body(0);
        desk.link(0, 1);
        desk.body(2);
        desk.join(0, 1);
        check.due("orbits ahead of the shifts", desk.orbits(0), 1);
        desk.shift(0, 9);
        check.due("no orbit goes on by 15 and then by 6", desk.orbits(0), 0);
        check.due("looks stay", desk.ofBody(0, 0), 3);
        check.due("joins stay", desk.ofBody(1, 2), 0);
        check.due("owners stay", desk.ofDot(1, 3), 0);
        desk.shift(1, 9);
        check.due("all are shifted alike", desk.orbits(0), 1);
        check.due("the same orbit, moved", desk.orbit(0, 0, 0), 389);
    }

    private static void ofDot() {
        Desk desk = new Desk();
        desk.observatory(3);
        desk.plate(0, 0);
        desk.plate(0, 345);
        desk.dot(1, 399, 12);
        desk.dot(0, 400, 34);
        desk.dot(0, 3599, 0);
        desk.dot(0, 0, 0);
        check.due("its night", desk.ofDot(0, 0), 345);
        check.due("its place without a shift", desk.ofDot(0, 1), 399);
        check.due("its light", desk.ofDot(0, 2), 12);
        check.due("it is unlinked", desk.ofDot(0, 3), NONE);
        desk.body(1);
        desk.body(0);
        check.due("its body", desk.ofDot(0, 3), 1);
        check.due("the other's body", desk.ofDot(1, 3), 0);
        desk.shift(0, 4);
        desk.shift(1, -5);
        check.due("zone 0 ends with 399, and its shift is that of the measured place", desk.ofDot(0, 1), 403);
        check.due("zone 1 begins with 400", desk.ofDot(1, 1), 395);
        desk.shift(8, 9);
        check.due("over the end of the circle", desk.ofDot(2, 1), 8);
        desk.shift(0, -9);
        check.due("over its beginning", desk.ofDot(3, 1), 3591);
        for (int dot : new int[] {-1, 4, MIN, MAX}) {
            check.index("dot " + dot, () -> desk.ofDot(dot, 0));
            check.index("the dot comes first", () -> desk.ofDot(dot, 4));
        }
        for (int what : new int[] {-1, 4, MIN, MAX}) {
            check.argument("what " + what, () -> desk.ofDot(0, what));
        }
    }

    private static void thrownCallsChangeNothing() {
        Desk desk = new Desk();
        check.argument("no observatory", () -> desk.observatory(10));
        check.due("the first observatory", desk.observatory(1), 0);
        check.argument("no plate", () -> desk.plate(0, 1000));
        check.due("the first plate", desk.plate(0, 1), 0);
        check.argument("no dot", () -> desk.dot(0, 0, 100));
        check.due("the first dot", desk.dot(0, 5, 1), 0);
        check.argument("no shift", () -> desk.shift(0, 10));
        check.due("no shift before", desk.shift(0, 0), 0);
        check.index("no body", () -> desk.body(1));
        check.due("the first body", desk.body(0), 0);
    }
}
