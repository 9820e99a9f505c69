/** Promises 14 to 19 at the boundaries and on both sides of them. */
public final class OrbitBoundariesTest {
    private static final int NONE = PlanetoidDesk.NONE;
    private static final Check check = new Check();

    public static void main(String[] args) {
        fewestAndMost();
        placesThatTwoLooksLeave();
        placesThatThreeLooksLeave();
        firstAndLastOrbit();
        firstAndLastOrbitByTheSeam();
        noOrbit();
        spreadFromOneToMany();
        ranks();
        ranksByTheSeam();
        farthestNights();
        candidatesFromNoneToAll();
        candidatesByThePlate();
        candidatesByTheOrbits();
        candidatesOfAJoinedBody();
        check.end("OrbitBoundariesTest");
    }

    private static void counts(String what, Desk desk, int body, int due) {
        check.due("orbits, " + what, desk.orbits(body), due);
        check.due("orbitsAnew, " + what, desk.orbitsAnew(body), due);
    }

    private static void orbitIs(String what, Desk desk, int orbit, int a, int b, int c) {
        int[] due = {a, b, c};
        for (int of = 0; of < 3; of++) {
            check.due(what + ", " + of + " of orbit " + orbit, desk.orbit(0, orbit, of), due[of]);
        }
    }

    /** One look leaves 405 orbits by an error of 0, and 19 times as many by one of 9; enough looks leave one. */
    private static void fewestAndMost() {
        for (int error = 0; error < 10; error++) {
            for (int place : new int[] {0, 4, 9, 1800, 3590, 3599}) {
                counts("error " + error + " at " + place, Desks.oneBody(error, 0, place), 0, 405 * (2 * error + 1));
                counts("error " + error + " in night 999", Desks.oneBody(error, 999, place), 0, 405 * (2 * error + 1));
            }
        }
        counts("three exact looks", Desks.oneBody(0, 0, 3599, 1, 0, 2, 1), 0, 1);
        counts("all looks of one body", Desks.oneBody(9, 0, 0, 0, 0, 0, 0, 0, 0), 0, 405 * 19);
    }

    /** Two looks in night 0, of two errors, at each distance up to that where they leave none. */
    private static void placesThatTwoLooksLeave() {
        int[][] errors = {{0, 0}, {0, 9}, {9, 0}, {9, 9}, {2, 5}, {5, 2}};
        for (int[] pair : errors) {
            for (int place : new int[] {0, 1000, 3599}) {
                for (int step = -pair[0] - pair[1]; step <= pair[0] + pair[1]; step++) {
                    int first = Math.max(-pair[0], step - pair[1]);
                    int last = Math.min(pair[0], step + pair[1]);
                    Desk desk = twoLooks(pair, place, Math.floorMod(place + step, 3600));
                    String told = place + " by " + pair[0] + ", " + step + " on by " + pair[1];
                    counts(told, desk, 0, 405 * (last - first + 1));
                    int least = 3600;
                    for (int a = place + first; a <= place + last; a++) {
                        least = Math.min(least, Math.floorMod(a, 3600));
                    }
                    check.due("the lowest a, " + told, desk.orbit(0, 0, 0), least);
                    check.due("the places, " + told, desk.spread(0, 0), last - first + 1);
                }
            }
        }
    }

    private static Desk twoLooks(int[] errors, int place, int other) {
        Desk desk = new Desk();
        for (int i = 0; i < 2; i++) {
            desk.observatory(errors[i]);
            desk.plate(i, 0);
            desk.dot(i, i == 0 ? place : other, 0);
        }
        desk.body(0);
        desk.link(0, 1);
        return desk;
    }

    /** Each look takes from both sides, and shifts leave fewer, down to none. */
    private static void placesThatThreeLooksLeave() {
        Desk desk = Desks.oneBody(2, 0, 399, 0, 401, 0, 400);
        counts("397 to 401, 399 to 403, 398 to 402: three", desk, 0, 405 * 3);
        desk.shift(0, -1);
        counts("396 to 400: two", desk, 0, 405 * 2);
        desk.shift(0, -2);
        counts("395 to 399: one", desk, 0, 405);
        desk.shift(0, -3);
        counts("394 to 398: none", desk, 0, 0);
        desk.shift(1, -3);
        counts("all three shifted alike", desk, 0, 405 * 3);
        desk.shift(0, 3);
        counts("none on the other side", desk, 0, 0);
        desk.shift(0, 2);
        counts("399 to 403, 396 to 400, 395 to 399: one", desk, 0, 405);
    }

    /** "0 for the first one; there are as many as orbits() tells". */
    private static void firstAndLastOrbit() {
        Desk many = Desks.oneBody(9, 0, 1000);
        counts("of 19 places", many, 0, 7695);
        orbitIs("first", many, 0, 991, -40, -2);
        orbitIs("last", many, 7694, 1009, 40, 2);
        check.index("behind the last", () -> many.orbit(0, 7695, 0));
        check.index("ahead of the first", () -> many.orbit(0, -1, 0));
        Desk one = Desks.oneBody(0, 0, 1000, 1, 1001, 2, 1001);
        counts("one alone", one, 0, 1);
        orbitIs("first and last", one, 0, 1000, 1, -1);
        check.index("behind the only one", () -> one.orbit(0, 1, 0));
        check.index("ahead of the only one", () -> one.orbit(0, -1, 0));
    }

    /** "the lower ones first", also where the places a go round the circle. */
    private static void firstAndLastOrbitByTheSeam() {
        Desk desk = Desks.oneBody(1, 0, 3599);
        orbitIs("the lowest a is 0", desk, 0, 0, -40, -2);
        orbitIs("the last of a 0", desk, 404, 0, 40, 2);
        orbitIs("then 3598", desk, 405, 3598, -40, -2);
        orbitIs("the last of 3598", desk, 809, 3598, 40, 2);
        orbitIs("then 3599", desk, 810, 3599, -40, -2);
        orbitIs("the last of all", desk, 1214, 3599, 40, 2);
        orbitIs("b goes up when c has gone through", desk, 5, 0, -39, -2);
        orbitIs("c goes up first", desk, 1, 0, -40, -1);
        Desk later = Desks.oneBody(0, 1, 0);
        orbitIs("a is 0 less b", later, 0, 0, 0, -2);
        orbitIs("a of b 0, the last", later, 4, 0, 0, 2);
        orbitIs("a of b -1", later, 5, 1, -1, -2);
        orbitIs("a of b -40", later, 204, 40, -40, 2);
        orbitIs("a of b 40 comes behind it", later, 205, 3560, 40, -2);
        orbitIs("a of b 1", later, 404, 3599, 1, 2);
    }

    /** A body without orbits has no first one, no places, no candidates. */
    private static void noOrbit() {
        Desk desk = Desks.oneBody(0, 0, 399, 1, 400);
        desk.plate(0, 2);
        desk.dot(2, 401, 0);
        counts("before", desk, 0, 5);
        check.due("a candidate before", desk.candidates(0), 1);
        desk.shift(0, -9);
        desk.shift(1, 9);
        counts("19 in a night still", desk, 0, 5);
        Desk lost = Desks.oneBody(0, 0, 399, 1, 439);
        lost.plate(0, 2);
        lost.dot(2, 479, 0);
        lost.shift(0, -1);
        counts("41 in a night", lost, 0, 0);
        check.index("no orbit", () -> lost.orbit(0, 0, 0));
        check.index("no orbit, of no kind", () -> lost.orbit(0, 0, 3));
        check.due("no places", lost.spread(0, 0), 0);
        check.due("no lowest place", lost.where(0, 0, 0), NONE);
        check.due("no place at any rank", lost.where(0, 999, Integer.MAX_VALUE), NONE);
        check.due("no candidates", lost.candidates(0), 0);
        lost.shift(0, 0);
        check.due("one again", lost.candidates(0), 1);
    }

    /** "Returns how many unlike places". */
    private static void spreadFromOneToMany() {
        Desk desk = Desks.oneBody(0, 0, 0);
        check.due("one place for 405 orbits", desk.spread(0, 0), 1);
        check.due("one for each b", desk.spread(0, 1), 81);
        check.due("of 2b and c", desk.spread(0, 2), 165);
        Desk wide = Desks.oneBody(9, 0, 0);
        check.due("19 by the error", wide.spread(0, 0), 19);
        check.due("by the error and b", wide.spread(0, 1), 99);
        check.due("by the error, b and c", wide.spread(0, 2), 183);
        // In night 50 they go by 50b and 1225c: 50 apart, and 25 by an odd c; round the circle it is all of both.
        check.due("every 25th place all round the circle", desk.spread(0, 50), 144);
        check.due("every place within 9 of these", wide.spread(0, 50), 144 * 19);
        // In night 60 by 60b and 1770c: every 30th place.
        check.due("every 30th place", desk.spread(0, 60), 120);
        Desk one = Desks.oneBody(0, 0, 0, 1, 3599, 2, 3597);
        check.due("one place for one orbit", one.spread(0, 999), 1);
    }

    /** "0 for the lowest one"; "NONE if there are not so many". */
    private static void ranks() {
        Desk desk = Desks.oneBody(0, 0, 1000);
        check.due("the lowest", desk.where(0, 1, 0), 960);
        check.due("the next", desk.where(0, 1, 1), 961);
        check.due("the highest", desk.where(0, 1, 80), 1040);
        check.due("one beyond", desk.where(0, 1, 81), NONE);
        check.due("far beyond", desk.where(0, 1, Integer.MAX_VALUE), NONE);
        check.argument("one below", () -> desk.where(0, 1, -1));
        check.due("the only one", desk.where(0, 0, 0), 1000);
        check.due("beyond the only one", desk.where(0, 0, 1), NONE);
    }

    private static void ranksByTheSeam() {
        Desk desk = Desks.oneBody(0, 0, 3599);
        check.due("0 is the lowest", desk.where(0, 1, 0), 0);
        check.due("39 is the last one behind the seam", desk.where(0, 1, 39), 39);
        check.due("3559 is next", desk.where(0, 1, 40), 3559);
        check.due("3599 is the highest", desk.where(0, 1, 80), 3599);
        check.due("one beyond", desk.where(0, 1, 81), NONE);
    }

    /** "night: 0 to 999". */
    private static void farthestNights() {
        Desk desk = Desks.oneBody(0, 0, 5, 1, 6, 2, 7);
        check.due("places in night 0", desk.spread(0, 0), 1);
        check.due("the place in night 0", desk.where(0, 0, 0), 5);
        check.due("places in night 999", desk.spread(0, 999), 1);
        check.due("the place in night 999", desk.where(0, 999, 0), 1004);
        for (int night : new int[] {-1, 1000}) {
            check.argument("spread in night " + night, () -> desk.spread(0, night));
            check.argument("where in night " + night, () -> desk.where(0, night, 0));
        }
    }

    /** "Returns how many; 0 if it is not free". */
    private static void candidatesFromNoneToAll() {
        Desk alone = Desks.oneBody(9, 0, 100);
        check.due("no dot but its own", alone.candidates(0), 0);
        Desk later = Desks.seen(9);
        later.plate(0, 0);
        later.plate(0, 1);
        later.dot(1, 0, 0);
        later.body(0);
        check.due("no dot on a plate that is empty", later.candidates(0), 0);
        later.dot(0, 0, 0);
        check.due("the first one on it", later.candidates(0), 1);
        Desk all = Desks.seen(9, 0, 100);
        all.plate(0, 0);
        for (int i = 0; i < 59; i++) {
            all.dot(1, 100, 0);
        }
        all.body(0);
        check.due("all 59 others", all.candidates(0), 59);
        all.body(59);
        check.due("all but that of another body", all.candidates(0), 58);
        check.due("none of those on its plate, so dot 0 alone, which is linked", all.candidates(1), 0);
        all.link(0, 1);
        check.due("none, as each is on the plate of a look", all.candidates(0), 0);
        all.unlink(0, 0);
        check.due("the one on the other plate", all.candidates(0), 1);
    }

    /** "none of its looks, those of joined ones too, is on the plate of the dot". */
    private static void candidatesByThePlate() {
        Desk desk = Desks.seen(9, 0, 100, 1, 100, 2, 100);
        for (int plate = 0; plate < 3; plate++) {
            desk.dot(plate, 100, 0);
        }
        desk.body(0);
        desk.body(1);
        desk.body(2);
        check.due("on two plates", desk.candidates(0), 2);
        desk.join(1, 2);
        check.due("on two plates still", desk.candidates(0), 2);
        check.due("on one plate", desk.candidates(1), 1);
        desk.join(0, 1);
        check.due("on none", desk.candidates(0), 0);
        desk.part(0);
        check.due("on two again", desk.candidates(0), 2);
    }

    /** "some orbit fits all its looks and the dot": as far as each dot can be, and one step farther. */
    private static void candidatesByTheOrbits() {
        int[] places = {0, 20, 1800, 3580, 3599};
        for (int place : places) {
            Desk desk = Desks.oneBody(2, 0, place);
            desk.plate(0, 1);
            desk.plate(0, 0);
            // By b and both errors 44 from night to night, and by both errors 4 in one night.
            for (int step : new int[] {44, -44, 45, -45}) {
                desk.dot(1, Math.floorMod(place + step, 3600), 0);
            }
            check.due("two in reach of " + place, desk.candidates(0), 2);
            for (int step : new int[] {4, -4, 5, -5}) {
                desk.dot(2, Math.floorMod(place + step, 3600), 0);
            }
            check.due("four in reach of " + place, desk.candidates(0), 4);
            check.due("the look at 44", desk.link(0, 1), 2);
            // Now a is 2 on, and b 40: of those of the same night the one 4 on is left.
            check.due("one in reach of both", desk.candidates(0), 1);
            check.due("that one", desk.link(0, 5), 3);
            check.due("none in reach of all", desk.candidates(0), 0);
        }
    }

    private static void candidatesOfAJoinedBody() {
        Desk desk = Desks.seen(0, 0, 100, 1, 110, 2, 120, 3, 130);
        desk.body(0);
        desk.body(1);
        check.due("two while it is free", desk.candidates(1), 2);
        desk.join(0, 1);
        check.due("none for the joined one", desk.candidates(1), 0);
        check.due("two for its host", desk.candidates(0), 2);
        desk.part(0);
        check.due("two when it is free again", desk.candidates(1), 2);
    }
}
