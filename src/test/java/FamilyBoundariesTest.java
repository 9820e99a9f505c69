/** Promises 21 and 22, and families, at the boundaries and on both sides of them. */
public final class FamilyBoundariesTest {
    private static final int NONE = PlanetoidDesk.NONE;
    private static final Check check = new Check();

    public static void main(String[] args) {
        withoutNumbers();
        oneNumber();
        leastMeasure();
        akinByB();
        akinByC();
        akinByBoth();
        greatestMeasure();
        fromOneToTheNext();
        lowestNumberOfTheFamily();
        withoutANumberAmidThem();
        properOrbits();
        check.end("FamilyBoundariesTest");
    }

    /** For each b and c a body of looks in the nights 0, 1 and 30, which tell its orbit. */
    private static Desk bodies(int... bAndC) {
        Desk desk = new Desk();
        desk.observatory(0);
        int[] nights = {0, 1, 30};
        for (int night : nights) {
            desk.plate(0, night);
        }
        for (int body = 0; body < bAndC.length / 2; body++) {
            int b = bAndC[2 * body];
            int c = bAndC[2 * body + 1];
            for (int plate = 0; plate < 3; plate++) {
                int night = nights[plate];
                desk.dot(plate, Math.floorMod(400 * body + b * night + c * (night * (night - 1) / 2), 3600), 0);
            }
            desk.body(3 * body);
            desk.link(body, 3 * body + 1);
            desk.link(body, 3 * body + 2);
        }
        return desk;
    }

    private static Desk numbered(int... bAndC) {
        Desk desk = bodies(bAndC);
        for (int body = 0; body < bAndC.length / 2; body++) {
            check.due("number of " + body, desk.number(body), body + 1);
        }
        return desk;
    }

    /** Two bodies are akin by this measure, and not by one less. */
    private static void akinFrom(int measure, int... bAndC) {
        Desk desk = numbered(bAndC);
        String told = "b " + bAndC[0] + ", " + bAndC[2] + ", c " + bAndC[1] + ", " + bAndC[3];
        check.due("families by that measure, " + told, desk.families(measure), 1);
        check.due("of the first, " + told, desk.family(0, measure), 0);
        check.due("of the second, " + told, desk.family(1, measure), 0);
        if (measure > 0) {
            check.due("families by one less, " + told, desk.families(measure - 1), 2);
            check.due("of the first by one less, " + told, desk.family(0, measure - 1), 0);
            check.due("of the second by one less, " + told, desk.family(1, measure - 1), 1);
        }
        if (measure < 90) {
            check.due("families by one more, " + told, desk.families(measure + 1), 1);
        }
    }

    /** "0 without numbers"; "NONE if the body has no number". */
    private static void withoutNumbers() {
        Desk desk = bodies(0, 0, 0, 0);
        for (int measure : new int[] {0, 1, 89, 90}) {
            check.due("no families by " + measure, desk.families(measure), 0);
            check.due("no family by " + measure, desk.family(1, measure), NONE);
        }
        for (int measure : new int[] {-1, 91}) {
            check.argument("families by " + measure, () -> desk.families(measure));
            check.argument("family without a number by " + measure, () -> desk.family(0, measure));
        }
    }

    private static void oneNumber() {
        Desk desk = bodies(0, 0, 0, 0);
        desk.number(1);
        for (int measure : new int[] {0, 90}) {
            check.due("one family by " + measure, desk.families(measure), 1);
            check.due("it alone by " + measure, desk.family(1, measure), 1);
            check.due("not the one without a number by " + measure, desk.family(0, measure), NONE);
        }
    }

    /** "measure: 0 to 90": by 0 those of the same b and c are akin, whatever their a. */
    private static void leastMeasure() {
        akinFrom(0, 7, 1, 7, 1);
        akinFrom(0, -40, -2, -40, -2);
        akinFrom(0, 40, 2, 40, 2);
        akinFrom(1, 7, 1, 8, 1);
    }

    /** "the b are apart (the difference, without its sign)". */
    private static void akinByB() {
        akinFrom(1, 0, 0, -1, 0);
        akinFrom(2, 1, 0, -1, 0);
        akinFrom(40, 0, 0, 40, 0);
        akinFrom(79, -40, 0, 39, 0);
        akinFrom(80, -40, 0, 40, 0);
        akinFrom(80, 40, 0, -40, 0);
    }

    /** "and 5 times how far the c are". */
    private static void akinByC() {
        akinFrom(5, 0, 0, 0, 1);
        akinFrom(5, 0, -1, 0, -2);
        akinFrom(10, 0, 1, 0, -1);
        akinFrom(15, 0, -2, 0, 1);
        akinFrom(20, 0, -2, 0, 2);
        akinFrom(20, 0, 2, 0, -2);
    }

    /** "together, by d or less". */
    private static void akinByBoth() {
        akinFrom(6, 0, 0, 1, 1);
        akinFrom(6, 0, 0, 1, -1);
        akinFrom(6, 0, 0, -1, 1);
        akinFrom(23, -3, 2, 0, -2);
        akinFrom(85, -40, 0, 40, 1);
    }

    /** By 90, the greatest measure, and some are farther apart than that: 100 at the most. */
    private static void greatestMeasure() {
        akinFrom(90, -40, 0, 40, 2);
        akinFrom(90, -35, -1, 40, 2);
        akinFrom(90, -30, -2, 40, 2);
        int[][] farther = {{-40, -1, 40, 2}, {-40, -2, 40, 2}, {-31, -2, 40, 2}, {40, -1, -40, 2}};
        for (int[] two : farther) {
            Desk desk = numbered(two);
            check.due("too far apart by 90", desk.families(90), 2);
            check.due("each alone", desk.family(1, 90), 1);
        }
    }

    /** "all bodies with numbers to which one comes from one of them, from one that is akin to the next". */
    private static void fromOneToTheNext() {
        Desk desk = numbered(0, 0, 30, 0, 10, 0, 20, 0, -11, 0);
        int[] measures = {9, 10, 11};
        int[] counts = {5, 2, 1};
        int[][] heads = {{0, 1, 2, 3, 4}, {0, 0, 0, 0, 4}, {0, 0, 0, 0, 0}};
        for (int i = 0; i < 3; i++) {
            check.due("families by " + measures[i], desk.families(measures[i]), counts[i]);
            for (int body = 0; body < 5; body++) {
                check.due("family of " + body + " by " + measures[i], desk.family(body, measures[i]), heads[i][body]);
            }
        }
    }

    /** "the body that got the lowest number by number()". */
    private static void lowestNumberOfTheFamily() {
        int[][] orders = {{0, 1, 2}, {2, 1, 0}, {1, 0, 2}, {1, 2, 0}, {2, 0, 1}};
        for (int[] order : orders) {
            Desk desk = bodies(0, 0, 5, 0, 10, 0);
            for (int body : order) {
                desk.number(body);
            }
            for (int body = 0; body < 3; body++) {
                check.due("by a chain, of " + body, desk.family(body, 5), order[0]);
                check.due("alone, of " + body, desk.family(body, 4), body);
            }
        }
    }

    /** A body without a number is of no family, and leads from none to the next. */
    private static void withoutANumberAmidThem() {
        Desk desk = bodies(0, 0, 5, 0, 10, 0);
        desk.number(0);
        desk.number(2);
        check.due("two families", desk.families(5), 2);
        check.due("the one amid them", desk.family(1, 5), NONE);
        check.due("the last one alone", desk.family(2, 5), 2);
        desk.number(1);
        check.due("one family", desk.families(5), 1);
        check.due("the last one by the one amid them", desk.family(2, 5), 0);
    }

    /** "of their proper orbits": not those that their looks of now have. */
    private static void properOrbits() {
        Desk desk = numbered(0, 0, 3, 1);
        for (int body = 0; body < 2; body++) {
            desk.unlink(body, 3 * body + 2);
            desk.unlink(body, 3 * body + 1);
        }
        check.due("any orbit by now", desk.orbits(0), 405);
        check.due("akin by 8", desk.families(8), 1);
        check.due("not by 7", desk.families(7), 2);
    }
}
