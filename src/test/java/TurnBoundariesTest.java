/** Promise 23, and turns of light, at the boundaries and on both sides of them. */
public final class TurnBoundariesTest {
    private static final int NONE = PlanetoidDesk.NONE;
    private static final Check check = new Check();

    public static void main(String[] args) {
        fewerThanFourLooks();
        withoutOrbits();
        leastTurn();
        greatestTurn();
        beyondTheGreatestTurn();
        leastOfSeveral();
        partsOfOneLook();
        leastAndGreatestFault();
        remaindersOfTheNights();
        ofJoinedLooks();
        check.end("TurnBoundariesTest");
    }

    /** A body that stands still, with a look for each night and light. */
    private static Desk lights(int... nightsAndLights) {
        Desk desk = new Desk();
        desk.observatory(0);
        for (int i = 0; i < nightsAndLights.length / 2; i++) {
            desk.plate(0, nightsAndLights[2 * i]);
            desk.dot(i, 100, nightsAndLights[2 * i + 1]);
        }
        desk.body(0);
        for (int dot = 1; dot < nightsAndLights.length / 2; dot++) {
            desk.link(0, dot);
        }
        return desk;
    }

    private static void turn(String what, Desk desk, int turn, int fault) {
        check.due("turn, " + what, desk.turn(0, false), turn);
        check.due("fault, " + what, desk.turn(0, true), fault);
    }

    /** "NONE if it has fewer than 4 looks". */
    private static void fewerThanFourLooks() {
        turn("one look", lights(0, 5), NONE, NONE);
        turn("two looks", lights(0, 5, 1, 5), NONE, NONE);
        turn("three looks", lights(0, 5, 1, 5, 2, 5), NONE, NONE);
        turn("four looks", lights(0, 5, 1, 5, 2, 5, 3, 5), 2, 0);
        turn("five looks", lights(0, 5, 1, 5, 2, 5, 3, 5, 4, 5), 2, 0);
        Desk desk = lights(0, 5, 1, 5, 2, 5, 3, 5);
        desk.unlink(0, 3);
        turn("three of four", desk, NONE, NONE);
        desk.link(0, 3);
        turn("four again", desk, 2, 0);
    }

    /** Light turns by the looks, whether an orbit fits them or not. */
    private static void withoutOrbits() {
        Desk desk = Desks.oneBody(0, 0, 390, 1, 400, 2, 410, 3, 420);
        desk.shift(0, 9);
        check.due("no orbits", desk.orbits(0), 0);
        turn("without orbits", desk, 2, 0);
    }

    /** "p from 2". */
    private static void leastTurn() {
        turn("to and fro", lights(0, 10, 1, 20, 2, 10, 3, 20), 2, 0);
        turn("by 3, not by 2", lights(0, 10, 1, 20, 2, 20, 3, 10), 3, 0);
        turn("all in one night, where 1 would do as well", lights(7, 10, 7, 20, 7, 40, 7, 30), 2, 30);
    }

    /** Light 0 in four nights that lie so far apart, and 99 in each of the nights from 2 to one less than that. */
    private static Desk darkEvery(int nights) {
        int[] row = new int[2 * (nights + 2)];
        for (int i = 0; i < 4; i++) {
            row[2 * i] = nights * i;
        }
        for (int night = 2; night < nights; night++) {
            row[2 * (night + 2)] = night;
            row[2 * (night + 2) + 1] = 99;
        }
        return lights(row);
    }

    /** "to 20": the last p is the only one that parts night 0 from all bright ones. */
    private static void greatestTurn() {
        turn("dark every 19 nights", darkEvery(19), 19, 0);
        turn("dark every 20 nights", darkEvery(20), 20, 0);
    }

    /** By 21 there would be no fault; by 3, and by 7, the dark nights are in one part, with some of the bright ones. */
    private static void beyondTheGreatestTurn() {
        turn("dark every 21 nights", darkEvery(21), 3, 99);
    }

    /** "of several the least p". */
    private static void leastOfSeveral() {
        turn("2 of 2 to 20", lights(5, 1, 5, 1, 5, 1, 5, 1), 2, 0);
        turn("3 of 3 and 4 to 20", lights(0, 0, 2, 9, 0, 0, 2, 9), 3, 0);
        turn("4 of 4, 5, 7 and so on", lights(0, 0, 6, 9, 0, 0, 6, 9), 4, 0);
        turn("5 of 5, 7 and so on", lights(0, 0, 12, 9, 0, 0, 12, 9), 5, 0);
        turn("7 of 7, 8, 9, 11 and so on", lights(0, 0, 60, 9, 0, 0, 60, 9), 7, 0);
        turn("9 of 9, 11 and so on", lights(0, 0, 840, 9, 0, 0, 840, 9), 9, 0);
        turn("alike faults above 0", lights(3, 0, 3, 50, 3, 9, 3, 9), 2, 50);
    }

    /** "of each part that has some, the greatest light less the least one": of a part of one look that is 0. */
    private static void partsOfOneLook() {
        turn("each alone by 4", lights(0, 0, 1, 99, 2, 50, 3, 1), 4, 0);
        turn("each alone by 5, two and two by 4", lights(0, 0, 6, 99, 12, 50, 18, 1), 5, 0);
        turn("lights of 99 alone", lights(0, 99, 1, 99, 2, 99, 3, 99), 2, 0);
        turn("lights of 0 alone", lights(0, 0, 1, 0, 2, 0, 3, 0), 2, 0);
    }

    /** "all of these together": 99 by each part that has two. */
    private static void leastAndGreatestFault() {
        turn("one part of 99", lights(0, 0, 0, 99, 0, 5, 0, 5), 2, 99);
        turn("two parts of 99", lights(0, 0, 0, 99, 1, 99, 1, 0), 2, 198);
        turn("one part of 1", lights(0, 50, 0, 51, 1, 3, 1, 3), 2, 1);
        turn("two parts, 30 and 2", lights(0, 10, 0, 40, 1, 7, 1, 9), 2, 32);
        turn("three parts in three nights, by 3", lights(0, 0, 0, 10, 1, 90, 1, 95, 2, 40, 2, 41), 3, 16);
    }

    /** "parted by the remainders of their nights by p", not by how many nights lie between looks. */
    private static void remaindersOfTheNights() {
        turn("the least and the greatest night", lights(0, 1, 999, 2, 998, 1, 1, 2), 2, 0);
        turn("999 and 0 are alike by 3 alone", lights(0, 7, 999, 7, 1, 8, 997, 8, 2, 9, 998, 9), 3, 0);
    }

    /** Looks of joined bodies count too; those of the host do not. */
    private static void ofJoinedLooks() {
        Desk desk = lights(0, 10, 1, 20, 2, 10);
        desk.plate(0, 3);
        desk.dot(3, 100, 20);
        desk.body(3);
        turn("three looks", desk, NONE, NONE);
        desk.join(0, 1);
        turn("a fourth one joined", desk, 2, 0);
        check.due("the joined one has one look", desk.turn(1, false), NONE);
        check.due("and no fault", desk.turn(1, true), NONE);
        desk.part(0);
        turn("three looks again", desk, NONE, NONE);
    }
}
