import java.math.BigInteger;

/** Promise 20, and 'Near comings', at the boundaries and on both sides of them. */
public final class ChanceBoundariesTest {
    private static final Check check = new Check();

    public static void main(String[] args) {
        nearByTwoOrLess();
        nearRoundTheCircle();
        earthRoundTheCircle();
        nearInSomeNight();
        firstAndLastNights();
        fewestAndMostNights();
        pathsOfOneNight();
        pathsOfTwoNights();
        pathsOfThreeNights();
        pathsAheadAndBehindTheLooks();
        lowestTerms();
        nothingByOne();
        nothingByNothing();
        ofJoinedLooks();
        check.end("ChanceBoundariesTest");
    }

    private static void chance(String what, Desk desk, int from, int nights, int above, int below) {
        String told = what + ", " + nights + " nights from " + from;
        check.due("above, " + told, desk.chance(0, from, nights, false), above);
        check.due("below, " + told, desk.chance(0, from, nights, true), below);
    }

    /** So many paths that come near, of so many; what is told is that in lowest terms. */
    private static void paths(String what, Desk desk, int from, int nights, int near, int all) {
        int divisor = BigInteger.valueOf(near).gcd(BigInteger.valueOf(all)).intValue();
        chance(what, desk, from, nights, near / divisor, all / divisor);
    }

    /** A body that stands still. */
    private static Desk still(int place) {
        return Desks.oneBody(0, 0, place, 1, place, 2, place);
    }

    /** "apart by 2 or less", on both sides of the earth, which is at 1000 in night 100. */
    private static void nearByTwoOrLess() {
        for (int step = -4; step <= 4; step++) {
            chance("step " + step, still(1000 + step), 100, 1, Math.abs(step) <= 2 ? 1 : 0, 1);
            chance("between two nights, " + step, still(1000 + step), 99, 3, Math.abs(step) <= 2 ? 1 : 0, 1);
        }
    }

    /** The earth is at 0 in night 0. */
    private static void nearRoundTheCircle() {
        int[] near = {0, 1, 2, 3598, 3599};
        int[] far = {3, 4, 1800, 3596, 3597};
        for (int place : near) {
            chance("near, " + place, still(place), 0, 1, 1, 1);
            chance("near again, " + place, still(place), 360, 1, 1, 1);
        }
        for (int place : far) {
            chance("far, " + place, still(place), 0, 1, 0, 1);
            chance("far again, " + place, still(place), 720, 1, 0, 1);
        }
    }

    /** "in the night t, at the place 10 times t, modulo 3600". */
    private static void earthRoundTheCircle() {
        int[][] rows = {{359, 3590}, {360, 0}, {361, 10}, {719, 3590}, {720, 0}, {998, 2780}, {999, 2790}};
        for (int[] row : rows) {
            for (int step = -3; step <= 3; step++) {
                Desk desk = still(Math.floorMod(row[1] + step, 3600));
                chance("at " + row[1] + ", " + step, desk, row[0], 1, Math.abs(step) <= 2 ? 1 : 0, 1);
            }
        }
    }

    /** "if in some of these nights": the first of them, the last, one amid them, not the ones ahead and behind. */
    private static void nearInSomeNight() {
        Desk desk = still(1000);
        chance("that night alone", desk, 100, 1, 1, 1);
        chance("the first of 60", desk, 100, 60, 1, 1);
        chance("the last of 60", desk, 41, 60, 1, 1);
        chance("amid 60", desk, 70, 60, 1, 1);
        chance("behind the last", desk, 40, 60, 0, 1);
        chance("ahead of the first", desk, 101, 60, 0, 1);
        chance("the night before", desk, 99, 1, 0, 1);
        chance("the night behind", desk, 101, 1, 0, 1);
        chance("the first of 2", desk, 100, 2, 1, 1);
        chance("the last of 2", desk, 99, 2, 1, 1);
        chance("once more round the circle", desk, 460, 1, 1, 1);
    }

    /** "from: 0 to 999"; "or the last night would be above 999". */
    private static void firstAndLastNights() {
        Desk desk = still(2790);
        chance("night 999 alone", desk, 999, 1, 1, 1);
        chance("998 and 999", desk, 998, 2, 1, 1);
        chance("940 to 999", desk, 940, 60, 1, 1);
        chance("939 to 998", desk, 939, 60, 0, 1);
        chance("0 to 59", desk, 0, 60, 0, 1);
        chance("night 0 alone", still(0), 0, 1, 1, 1);
        int[][] refused = {{999, 2}, {998, 3}, {941, 60}, {1000, 1}, {-1, 1}, {-1, 2}, {999, 60}, {Integer.MAX_VALUE, 60},
            {Integer.MAX_VALUE, Integer.MAX_VALUE}, {Integer.MIN_VALUE, Integer.MIN_VALUE}, {-59, 60}, {1001, -1}};
        for (int[] row : refused) {
            check.argument("from " + row[0] + ", " + row[1] + " nights", () -> desk.chance(0, row[0], row[1], false));
            check.argument("below, " + row[0] + ", " + row[1], () -> desk.chance(0, row[0], row[1], true));
        }
    }

    /** "nights: 1 to 60". */
    private static void fewestAndMostNights() {
        Desk desk = still(100);
        chance("the fewest", desk, 10, 1, 1, 1);
        chance("the most", desk, 10, 60, 1, 1);
        for (int nights : new int[] {0, -1, 61, Integer.MIN_VALUE, Integer.MAX_VALUE}) {
            check.argument("nights " + nights, () -> desk.chance(0, 10, nights, false));
        }
    }

    /** Unlike paths in one night are as many as the places are. */
    private static void pathsOfOneNight() {
        Desk desk = Desks.oneBody(0, 0, 0);
        // The earth is at 10, they are from -40 to 40; then it is at 20, they are from -82 to 82.
        paths("81 places", desk, 1, 1, 5, 81);
        paths("165 places", desk, 2, 1, 5, 165);
        Desk wide = Desks.oneBody(9, 0, 0);
        paths("19 places", wide, 0, 1, 5, 19);
        paths("99 places", wide, 1, 1, 5, 99);
    }

    /** In two nights orbits go alike if they begin at one place and go on by one step, b and c times the first night. */
    private static void pathsOfTwoNights() {
        Desk desk = Desks.oneBody(0, 0, 0);
        paths("from night 0 on c does not count, all are near", desk, 0, 2, 81, 81);
        // Near are 5 of the places with all steps, and of each other place those with the 5 steps that lead to 8 to 12.
        paths("19 places by 81 steps", Desks.oneBody(9, 0, 0), 0, 2, 5 * 81 + 14 * 5, 19 * 81);
        // In night 1 they are at b, 8 to 12 being near; in night 2 at 2b and c, 18 to 22 being near.
        paths("all 405 are unlike", desk, 1, 2, nearInTwoNights(0), 405);
        // In night 900 a step is b and 900c, so that c of -2 goes as c of 2 does; the earth is at 1800, then at 1810.
        paths("324 paths, near in the first night", Desks.oneBody(0, 900, 1802), 900, 2, 324, 324);
        paths("324 paths, near in the second night", Desks.oneBody(0, 900, 1803), 900, 2, 5, 324);
        paths("324 paths, never near", Desks.oneBody(0, 900, 1860), 900, 2, 0, 324);
    }

    /** In three nights each orbit has a path of its own. */
    private static void pathsOfThreeNights() {
        paths("405 paths", Desks.oneBody(0, 0, 3), 0, 3, nearInTwoNights(3), 405);
        // In night 901 near are b 5 to 9 with c 0; in night 902 also b 7 and 8 with c 2, b 9 and 10 with c -2.
        paths("405 paths from night 900 on", Desks.oneBody(0, 900, 1803), 900, 3, 9, 405);
        paths("7695 paths", Desks.oneBody(9, 0, 1800), 180, 3, nearFrom180(), 7695);
    }

    /** How many orbits with an a come near in the nights 1 and 2. */
    private static int nearInTwoNights(int a) {
        int near = 0;
        for (int b = -40; b <= 40; b++) {
            for (int c = -2; c <= 2; c++) {
                boolean isNear = Math.abs(a + b - 10) <= 2 || Math.abs(a + 2 * b + c - 20) <= 2;
                near += isNear ? 1 : 0;
            }
        }
        return near;
    }

    /** How many orbits of the a 1791 to 1809 come near in the nights 180 to 182. */
    private static int nearFrom180() {
        int near = 0;
        for (int a = 1791; a <= 1809; a++) {
            for (int course = 0; course < 405; course++) {
                boolean isNear = false;
                for (int t = 180; t < 183; t++) {
                    int place = a + (course / 5 - 40) * t + (course % 5 - 2) * (t * (t - 1) / 2);
                    int ahead = Math.floorMod(place - 10 * t, 3600);
                    isNear = isNear || ahead <= 2 || ahead >= 3598;
                }
                near += isNear ? 1 : 0;
            }
        }
        return near;
    }

    /** In nights ahead of the looks, in theirs and behind them, by the words of the document alone. */
    private static void pathsAheadAndBehindTheLooks() {
        Desk desk = Desks.oneBody(0, 5, 50);
        // In night 6 they are at 50, b and 5c, which is from 0 to 100; in night 4 at 50, less b and 4c; the earth is at 40.
        paths("101 places a night behind", desk, 6, 1, 5, 101);
        paths("97 places a night ahead", desk, 4, 1, 5, 97);
        paths("one place in that night", desk, 5, 1, 1, 1);
        asByTheModel(0, 5, 50);
        asByTheModel(9, 900, 1805);
        asByTheModel(2, 359, 3591);
        asByTheModel(3, 2, 20, 61, 610);
        asByTheModel(9, 998, 2785, 999, 2799);
    }

    private static void asByTheModel(int error, int... nightsAndPlaces) {
        Desk desk = Desks.oneBody(error, nightsAndPlaces);
        Model model = new Model();
        model.observatory(error);
        for (int i = 0; i < nightsAndPlaces.length / 2; i++) {
            model.dot(model.plate(0, nightsAndPlaces[2 * i]), nightsAndPlaces[2 * i + 1], 0);
        }
        model.body(0);
        for (int dot = 1; dot < nightsAndPlaces.length / 2; dot++) {
            model.link(0, dot);
        }
        for (int from : new int[] {0, 1, 2, 3, 4, 5, 6, 300, 358, 359, 360, 361, 450, 899, 900, 901, 960, 990, 997}) {
            for (int nights = 1; nights <= 3; nights++) {
                chance("error " + error + " in night " + nightsAndPlaces[0], desk, from, nights,
                    model.chance(0, from, nights, false), model.chance(0, from, nights, true));
            }
        }
    }

    /** "in lowest terms". */
    private static void lowestTerms() {
        Desk desk = Desks.oneBody(0, 0, 0);
        chance("5 of 165", desk, 2, 1, 1, 33);
        chance("405 of 405", desk, 0, 3, 1, 1);
        chance("81 of 81", desk, 0, 2, 1, 1);
        chance("5 of 81", desk, 1, 1, 5, 81);
        chance("5 of 19", Desks.oneBody(9, 0, 3598), 0, 1, 5, 19);
        chance("1 of 3", Desks.oneBody(1, 0, 3), 0, 1, 1, 3);
        chance("2 of 3", Desks.oneBody(1, 0, 2), 0, 1, 2, 3);
        chance("3 of 3", Desks.oneBody(1, 0, 3599), 0, 1, 1, 1);
        chance("1 of 4", Desks.oneBody(2, 0, 3, 0, 4), 0, 1, 1, 4);
        chance("2 of 4", Desks.oneBody(2, 0, 2, 0, 3), 0, 1, 1, 2);
    }

    /** "0 being 0 by 1". */
    private static void nothingByOne() {
        chance("one path", still(500), 0, 1, 0, 1);
        chance("19 paths", Desks.oneBody(9, 0, 1000), 0, 1, 0, 1);
        chance("405 paths", Desks.oneBody(0, 0, 1800), 0, 3, 0, 1);
        chance("7695 paths", Desks.oneBody(9, 0, 1800), 0, 5, 0, 1);
    }

    /** "0 for both if it has no orbits". */
    private static void nothingByNothing() {
        Desk desk = Desks.oneBody(0, 0, 0, 1, 40);
        chance("five orbits", desk, 0, 60, 1, 1);
        Desk lost = Desks.oneBody(0, 0, 399, 1, 439);
        chance("five orbits, far", lost, 0, 3, 0, 1);
        lost.shift(0, -1);
        chance("no orbits, one night", lost, 0, 1, 0, 0);
        chance("no orbits, two nights", lost, 39, 2, 0, 0);
        chance("no orbits, the most nights", lost, 940, 60, 0, 0);
        lost.shift(0, 0);
        chance("five orbits again", lost, 0, 3, 0, 1);
    }

    /** A body's orbits are those of all its looks, a joined one's those of its own. */
    private static void ofJoinedLooks() {
        Desk desk = Desks.eachABody(0, 1, 3, 0, 3, 2, 3);
        chance("any b", desk, 0, 1, 5, 81);
        desk.join(0, 1);
        desk.join(1, 2);
        check.due("it stands still, above", desk.chance(1, 0, 2, false), 0);
        check.due("it stands still, below", desk.chance(1, 0, 2, true), 1);
        chance("the joined one", desk, 0, 1, 5, 81);
    }
}
