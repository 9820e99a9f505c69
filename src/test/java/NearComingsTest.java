/** Promise 20: chance. */
public final class NearComingsTest {
    private static final Check check = new Check();

    public static void main(String[] args) {
        fromTheEarth();
        severalA();
        roundTheCircle();
        stepsAlikeByTheCircle();
        apart();
        withoutOrbits();
        joined();
        arguments();
        check.end("NearComingsTest");
    }

    private static Desk desk(int error, int night, int place) {
        Desk desk = new Desk();
        desk.observatory(error);
        desk.plate(0, night);
        desk.dot(0, place, 0);
        desk.body(0);
        return desk;
    }

    private static void chance(Desk desk, int from, int nights, int above, int below) {
        check.due("chance above, " + from + ", " + nights, desk.chance(0, from, nights, false), above);
        check.due("chance below, " + from + ", " + nights, desk.chance(0, from, nights, true), below);
    }

    private static void fromTheEarth() {
        Desk desk = desk(0, 0, 0);
        chance(desk, 0, 1, 1, 1);
        chance(desk, 0, 2, 1, 1);
        chance(desk, 0, 60, 1, 1);
        // In night 1 they are at b, the earth at 10.
        chance(desk, 1, 1, 5, 81);
        // In nights 1 and 2 at b and 2b + c, all unlike; the earth at 10 and 20: 25 of 405.
        chance(desk, 1, 2, 5, 81);
    }

    private static void severalA() {
        Desk desk = desk(1, 0, 0);
        // -41 to 41 in night 1, though there are 1215 orbits.
        chance(desk, 1, 1, 5, 83);
        // The last nights that there are.
        check.due("the last night", desk.chance(0, 999, 1, true) > 0 ? 1 : 0, 1);
        check.due("the last nights", desk.chance(0, 940, 60, true) > 0 ? 1 : 0, 1);
        // Three nights tell the orbit: all 1215 paths are unlike.
        check.due("of 1215", 1215 % desk.chance(0, 500, 3, true), 0);
    }

    private static void roundTheCircle() {
        // The earth is at 3600, which is 0, in night 360.
        chance(desk(0, 360, 3598), 360, 1, 1, 1);
        chance(desk(0, 360, 3597), 360, 1, 0, 1);
        chance(desk(0, 360, 2), 360, 1, 1, 1);
        chance(desk(0, 360, 3), 360, 1, 0, 1);
        chance(desk(9, 360, 3590), 360, 1, 2, 19);
        chance(desk(9, 360, 10), 360, 1, 2, 19);
    }

    /** In night 900 a step is b + 900c: with c -2 and 2 it is the same, round the circle. */
    private static void stepsAlikeByTheCircle() {
        Desk desk = desk(0, 900, 1810);
        chance(desk, 900, 1, 0, 1);
        chance(desk, 900, 2, 5, 324);
        // The step of night 901 parts them again.
        check.due("of 405", 405 % desk.chance(0, 900, 3, true), 0);
        int below = desk.chance(0, 900, 3, true);
        check.due("not of 324", 324 % below == 0 ? 1 : 0, 0);
    }

    private static void apart() {
        for (int place = 0; place < 6; place++) {
            chance(desk(0, 0, place), 0, 1, place <= 2 ? 1 : 0, 1);
        }
        chance(desk(0, 0, 1800), 0, 20, 0, 1);
        // In night 1 it is at 3 + b, the earth at 10: b is 5 to 9.
        Desk desk = desk(0, 0, 3);
        chance(desk, 0, 1, 0, 1);
        check.due("near in the second night", desk.chance(0, 0, 2, false), 5);
        check.due("of all", desk.chance(0, 0, 2, true), 81);
    }

    private static void withoutOrbits() {
        Desk desk = desk(0, 0, 399);
        desk.plate(0, 1);
        desk.dot(1, 439, 0);
        desk.link(0, 1);
        chance(desk, 0, 60, 0, 1);
        desk.shift(1, 9);
        chance(desk, 0, 60, 0, 0);
        chance(desk, 0, 1, 0, 0);
    }

    private static void joined() {
        Desk desk = desk(0, 0, 0);
        desk.plate(0, 1);
        desk.dot(1, 10, 0);
        desk.body(1);
        chance(desk, 2, 1, 1, 33);
        desk.join(0, 1);
        // b is 10, and 2b + c is 18 to 22.
        chance(desk, 2, 1, 1, 1);
        check.due("the joined one has its own orbits", desk.chance(1, 1, 1, true), 1);
        check.due("all places of night 0", desk.chance(1, 0, 1, true), 81);
    }

    private static void arguments() {
        Desk desk = desk(0, 0, 0);
        for (int body : new int[] {-1, 1, Integer.MIN_VALUE, Integer.MAX_VALUE}) {
            check.index("chance of " + body, () -> desk.chance(body, 0, 1, false));
            check.index("the body comes first", () -> desk.chance(body, -1, 0, false));
        }
        for (int from : new int[] {-1, 1000, Integer.MIN_VALUE, Integer.MAX_VALUE}) {
            check.argument("from " + from, () -> desk.chance(0, from, 1, false));
        }
        for (int nights : new int[] {0, -1, 61, Integer.MIN_VALUE, Integer.MAX_VALUE}) {
            check.argument("nights " + nights, () -> desk.chance(0, 0, nights, true));
        }
        check.argument("from below 0 into the nights", () -> desk.chance(0, -1, 2, true));
        check.argument("no nights, from a later one", () -> desk.chance(0, 5, 0, true));
        check.argument("a night above 999", () -> desk.chance(0, 999, 2, true));
        check.argument("a 60th night above 999", () -> desk.chance(0, 941, 60, true));
        check.due("a 60th night of 999", Check.outcome(() -> 0 * desk.chance(0, 940, 60, true)), "0");
    }
}
