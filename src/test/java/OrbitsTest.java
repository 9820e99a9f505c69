/** Promises 14 to 19: orbits, orbitsAnew, orbit, spread, where, candidates. */
public final class OrbitsTest {
    private static final int NONE = PlanetoidDesk.NONE;
    private static final int[] NO_BODY = {-1, 1, Integer.MIN_VALUE, Integer.MAX_VALUE};
    private static final Check check = new Check();

    public static void main(String[] args) {
        ofOneLook();
        roundTheCircle();
        narrowed();
        lostByShifts();
        latestNight();
        ofJoinedOnes();
        orbitArguments();
        spreadAndWhere();
        candidates();
        candidatesOfOthers();
        candidatesByErrors();
        unlikeErrors();
        eachCallByItself();
        check.end("OrbitsTest");
    }

    private static Desk desk(int error, int... nights) {
        Desk desk = new Desk();
        desk.observatory(error);
        for (int night : nights) {
            desk.plate(0, night);
        }
        return desk;
    }

    private static void counts(String what, Desk desk, int body, int want) {
        check.due("orbits, " + what, desk.orbits(body), want);
        check.due("orbitsAnew, " + what, desk.orbitsAnew(body), want);
    }

    private static void orbitIs(Desk desk, int index, int a, int b, int c) {
        check.due("a of orbit " + index, desk.orbit(0, index, 0), a);
        check.due("b of orbit " + index, desk.orbit(0, index, 1), b);
        check.due("c of orbit " + index, desk.orbit(0, index, 2), c);
    }

    private static void ofOneLook() {
        Desk desk = desk(1, 0);
        desk.dot(0, 500, 0);
        desk.body(0);
        counts("three places", desk, 0, 1215);
        orbitIs(desk, 0, 499, -40, -2);
        orbitIs(desk, 1, 499, -40, -1);
        orbitIs(desk, 4, 499, -40, 2);
        orbitIs(desk, 5, 499, -39, -2);
        orbitIs(desk, 404, 499, 40, 2);
        orbitIs(desk, 405, 500, -40, -2);
        orbitIs(desk, 1214, 501, 40, 2);
        for (int body : NO_BODY) {
            check.index("orbits of " + body, () -> desk.orbits(body));
            check.index("orbitsAnew of " + body, () -> desk.orbitsAnew(body));
        }
    }

    private static void roundTheCircle() {
        Desk desk = desk(1, 0, 1);
        desk.dot(0, 0, 0);
        desk.body(0);
        orbitIs(desk, 0, 0, -40, -2);
        orbitIs(desk, 405, 1, -40, -2);
        orbitIs(desk, 810, 3599, -40, -2);
        desk.dot(1, 3599, 0);
        check.due("a look on the other side of the seam", desk.link(0, 1), 2);
        // a is -1, 0 or 1, and a with b is -2, -1 or 0: nine pairs, each with any c.
        counts("on both sides of the seam", desk, 0, 45);
        orbitIs(desk, 0, 0, -2, -2);
        orbitIs(desk, 14, 0, 0, 2);
        orbitIs(desk, 15, 1, -3, -2);
        orbitIs(desk, 30, 3599, -1, -2);
        orbitIs(desk, 44, 3599, 1, 2);
    }

    private static void narrowed() {
        Desk desk = desk(0, 0, 1, 2, 3);
        desk.dot(0, 1000, 0);
        desk.dot(1, 1040, 0);
        desk.dot(2, 1078, 0);
        desk.dot(3, 1114, 0);
        desk.body(0);
        counts("one look", desk, 0, 405);
        desk.link(0, 1);
        counts("b is 40", desk, 0, 5);
        orbitIs(desk, 0, 1000, 40, -2);
        orbitIs(desk, 4, 1000, 40, 2);
        desk.link(0, 2);
        counts("c is -2", desk, 0, 1);
        orbitIs(desk, 0, 1000, 40, -2);
        desk.link(0, 3);
        counts("the fourth one fits too", desk, 0, 1);
        desk.unlink(0, 0);
        counts("by the later ones", desk, 0, 1);
        desk.unlink(0, 1);
        desk.unlink(0, 2);
        counts("one look again", desk, 0, 405);
        check.due("its a", desk.orbit(0, 0, 0), 988);
    }

    private static void lostByShifts() {
        Desk desk = desk(0, 0, 1);
        desk.dot(0, 399, 0);
        desk.dot(1, 439, 0);
        desk.body(0);
        desk.link(0, 1);
        counts("a step of 40", desk, 0, 5);
        desk.shift(1, 1);
        counts("a step of 41", desk, 0, 0);
        check.index("no first orbit", () -> desk.orbit(0, 0, 0));
        check.index("no orbit comes before no what", () -> desk.orbit(0, 0, 3));
        check.due("no places", desk.spread(0, 5), 0);
        check.due("no lowest place", desk.where(0, 5, 0), NONE);
        check.due("no candidates", desk.candidates(0), 0);
        desk.shift(0, 1);
        counts("a step of 40 again", desk, 0, 5);
        check.due("from a shifted place", desk.orbit(0, 0, 0), 400);
    }

    private static void latestNight() {
        Desk[] desks = new Desk[3];
        for (int what = 0; what < 3; what++) {
            desks[what] = desk(0, 999);
            desks[what].dot(0, 0, 0);
            desks[what].body(0);
        }
        counts("in night 999", desks[0], 0, 405);
        // 999 times 40 is 39960; 999 times 998 by 2 is 498501; a is 0 less both, or less 2 times it, round the circle.
        check.due("the place of each", desks[0].spread(0, 999), 1);
        check.due("it is 0", desks[0].where(0, 999, 0), 0);
        for (int index = 0; index < 405; index++) {
            int a = desks[0].orbit(0, index, 0);
            int b = desks[1].orbit(0, index, 1);
            int c = desks[2].orbit(0, index, 2);
            check.due("the place of orbit " + index, Math.floorMod(a + 999 * b + 498501 * c, 3600), 0);
        }
    }

    private static void ofJoinedOnes() {
        Desk desk = desk(0, 0, 1, 2);
        desk.dot(0, 100, 0);
        desk.dot(1, 107, 0);
        desk.dot(2, 115, 0);
        desk.body(2);
        desk.body(1);
        desk.body(0);
        desk.join(0, 1);
        desk.join(1, 2);
        counts("the free one", desk, 2, 1);
        // b and c are 8 together.
        counts("the one amid them has not its host's looks", desk, 1, 5);
        counts("the last one", desk, 0, 405);
        check.due("b", desk.orbit(2, 0, 1), 7);
        check.due("c", desk.orbit(2, 0, 2), 1);
    }

    private static void orbitArguments() {
        Desk desk = desk(0, 0);
        desk.dot(0, 100, 0);
        desk.body(0);
        for (int body : NO_BODY) {
            check.index("orbit of body " + body, () -> desk.orbit(body, 0, 0));
            check.index("the body comes first", () -> desk.orbit(body, 0, 3));
        }
        for (int orbit : new int[] {-1, 405, Integer.MIN_VALUE, Integer.MAX_VALUE}) {
            check.index("orbit " + orbit, () -> desk.orbit(0, orbit, 0));
            check.index("the orbit comes ahead of what", () -> desk.orbit(0, orbit, -1));
        }
        for (int what : new int[] {-1, 3, Integer.MIN_VALUE, Integer.MAX_VALUE}) {
            check.argument("what " + what, () -> desk.orbit(0, 404, what));
        }
    }

    private static void spreadAndWhere() {
        Desk desk = desk(0, 0);
        desk.dot(0, 20, 0);
        desk.body(0);
        check.due("one place in its night", desk.spread(0, 0), 1);
        check.due("by b alone in night 1", desk.spread(0, 1), 81);
        // In night 2 b counts twice and c once: -82 to 82.
        check.due("by b and c in night 2", desk.spread(0, 2), 165);
        check.due("the lowest is 0 behind the seam", desk.where(0, 2, 0), 0);
        check.due("the last one ahead of the seam", desk.where(0, 2, 102), 102);
        check.due("the first one on its other side", desk.where(0, 2, 103), 3538);
        check.due("the highest", desk.where(0, 2, 164), 3599);
        check.due("there are not so many", desk.where(0, 2, 165), NONE);
        check.due("far from so many", desk.where(0, 2, Integer.MAX_VALUE), NONE);
        check.due("night 999 has places", desk.spread(0, 999) > 0 ? 1 : 0, 1);
        for (int body : NO_BODY) {
            check.index("spread of " + body, () -> desk.spread(body, 0));
            check.index("where of " + body, () -> desk.where(body, 0, 0));
            check.index("the body comes ahead of the night", () -> desk.spread(body, -1));
            check.index("the body comes ahead of the others", () -> desk.where(body, -1, -1));
        }
        for (int night : new int[] {-1, 1000, Integer.MIN_VALUE, Integer.MAX_VALUE}) {
            check.argument("spread in " + night, () -> desk.spread(0, night));
            check.argument("where in " + night, () -> desk.where(0, night, 0));
        }
        check.argument("a rank below 0", () -> desk.where(0, 0, -1));
        check.argument("a rank far below 0", () -> desk.where(0, 0, Integer.MIN_VALUE));
    }

    private static void candidates() {
        Desk desk = desk(0, 0, 1, 2, 3);
        desk.dot(0, 100, 0);
        desk.dot(1, 60, 0);
        desk.dot(1, 59, 0);
        desk.dot(1, 140, 0);
        desk.dot(1, 141, 0);
        desk.dot(0, 100, 0);
        desk.dot(2, 182, 0);
        desk.dot(2, 183, 0);
        desk.dot(3, 226, 0);
        desk.dot(3, 227, 0);
        desk.body(0);
        check.due("those in reach, on other plates", desk.candidates(0), 4);
        for (int body : NO_BODY) {
            check.index("candidates of " + body, () -> desk.candidates(body));
        }
        desk.link(0, 3);
        check.due("with b 40: those with c 2", desk.candidates(0), 2);
        desk.link(0, 6);
        check.due("with c 2", desk.candidates(0), 1);
        desk.unlink(0, 0);
        check.due("by two looks", desk.candidates(0), 3);
    }

    private static void candidatesByErrors() {
        Desk desk = desk(3, 0, 1);
        desk.dot(0, 100, 0);
        desk.dot(1, 146, 0);
        desk.dot(1, 147, 0);
        desk.dot(1, 54, 0);
        desk.dot(1, 53, 0);
        desk.body(0);
        check.due("40 and both errors, either way", desk.candidates(0), 2);
        check.due("the farthest one", desk.link(0, 1), 2);
        // a is 103, b is 40, c is any.
        counts("at the edge of both errors", desk, 0, 5);
        desk.unlink(0, 1);
        check.state("one too far", () -> desk.link(0, 2));
        check.due("the farthest one the other way", desk.link(0, 3), 2);
    }

    private static void unlikeErrors() {
        Desk desk = new Desk();
        int[] errors = {9, 0, 4};
        for (int i = 0; i < 3; i++) {
            desk.observatory(errors[i]);
            desk.plate(i, 0);
        }
        desk.dot(0, 3595, 0);
        desk.dot(1, 3, 0);
        desk.dot(2, 3599, 0);
        desk.body(0);
        desk.body(1);
        desk.body(2);
        desk.join(0, 2);
        // 3586 to 4, and 3595 to 3 of the other one.
        counts("the one within the other", desk, 0, 405 * 9);
        desk.part(0);
        desk.join(0, 1);
        counts("a single place", desk, 0, 405);
        desk.join(0, 2);
        counts("of all three", desk, 0, 405);
        desk.part(0);
        desk.part(0);
        desk.join(2, 1);
        counts("beginning with the exact one", desk, 1, 405);
    }

    /** A call does not count on what another one has looked for. */
    private static void eachCallByItself() {
        Desk desk = desk(0, 0, 1, 2);
        desk.dot(0, 100, 0);
        desk.dot(1, 105, 0);
        desk.dot(2, 2000, 0);
        desk.body(0);
        desk.link(0, 1);
        desk.body(2);
        check.due("orbits of the one", desk.orbits(0), 5);
        check.due("orbitsAnew of the other", desk.orbitsAnew(1), 405);
        check.due("orbitsAnew of the one", desk.orbitsAnew(0), 5);
        check.due("a place of the other", desk.where(1, 2, 0), 2000);
        check.due("a place of the one", desk.where(0, 1, 0), 105);
        check.due("in another night", desk.where(0, 0, 0), 100);
        check.due("an orbit of the other", desk.orbit(1, 404, 0), 2082);
        check.due("places of the one", desk.spread(0, 2), 5);
        check.due("places of the other", desk.spread(1, 2), 1);
        check.due("the chance of the one", desk.chance(0, 2, 1, true), 1);
        check.due("night 0 has places", desk.spread(0, 0), 1);
    }

    private static void candidatesOfOthers() {
        Desk desk = desk(0, 0, 1, 2, 1);
        desk.dot(0, 100, 0);
        desk.dot(1, 105, 0);
        desk.dot(2, 110, 0);
        desk.dot(3, 105, 0);
        desk.dot(1, 105, 0);
        desk.body(0);
        check.due("all others", desk.candidates(0), 4);
        desk.body(1);
        check.due("those that no other body has", desk.candidates(0), 3);
        desk.join(0, 1);
        check.due("not those on the plate of a joined look", desk.candidates(0), 2);
        check.due("none for one that is not free", desk.candidates(1), 0);
        desk.part(0);
        check.due("some again", desk.candidates(1), 2);
        desk.shift(0, 9);
        check.due("all shifted alike", desk.candidates(0), 3);
    }
}
