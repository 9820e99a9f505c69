/** What the document says under 'The sky' and 'Plates, dots', at the boundaries and on both sides of them. */
public final class SkyBoundariesTest {
    private static final Check check = new Check();

    public static void main(String[] args) {
        leastAndGreatest();
        zeroComesBehindTheLast();
        apartEitherWayRound();
        farthestApart();
        zonesFromEdgeToEdge();
        noShiftAtFirst();
        trueRoundTheCircle();
        zoneOfTheMeasuredPlace();
        shiftsOfNow();
        fitsByTheErrorOrLess();
        fitsInALaterNight();
        bFromLeastToGreatest();
        cFromLeastToGreatest();
        placesOfOrbits();
        orderOfOrbits();
        check.end("SkyBoundariesTest");
    }

    /** "PLACES of the sky are 0 to 3599", "NIGHTS are 0 to 999", "an ERROR, 0 to 9", "a LIGHT, 0 to 99". */
    private static void leastAndGreatest() {
        Desk desk = new Desk();
        check.due("the least error", desk.observatory(0), 0);
        check.due("the greatest error", desk.observatory(9), 1);
        check.due("the least night", desk.plate(0, 0), 0);
        check.due("the greatest night", desk.plate(1, 999), 1);
        check.due("the least place and light", desk.dot(0, 0, 0), 0);
        check.due("the greatest place and light", desk.dot(1, 3599, 99), 1);
        int[][] told = {{0, 0, 0, -1}, {999, 3599, 99, -1}};
        for (int dot = 0; dot < 2; dot++) {
            for (int what = 0; what < 4; what++) {
                check.due("of dot " + dot + ", " + what, desk.ofDot(dot, what), told[dot][what]);
            }
        }
        for (int dot = 0; dot < 2; dot++) {
            desk.body(dot);
            check.due("orbits by the error", desk.orbits(dot), dot == 0 ? 405 : 405 * 19);
            check.due("places by the error", desk.spread(dot, dot == 0 ? 0 : 999), dot == 0 ? 1 : 19);
        }
        check.due("the place in the least night", desk.where(0, 0, 0), 0);
        check.due("the place in the greatest night", desk.where(1, 999, 18), 3599);
    }

    /** "in a circle: 0 comes behind 3599". */
    private static void zeroComesBehindTheLast() {
        int[][] steps = {{3599, 0, 1}, {0, 3599, -1}, {3599, 1, 2}, {1, 3598, -3}, {3570, 10, 40}, {10, 3570, -40}};
        for (int[] step : steps) {
            Desk desk = Desks.oneBody(0, 0, step[0], 1, step[1]);
            check.due("orbits from " + step[0] + " to " + step[1], desk.orbits(0), 5);
            check.due("anew from " + step[0] + " to " + step[1], desk.orbitsAnew(0), 5);
            check.due("a from " + step[0] + " to " + step[1], desk.orbit(0, 0, 0), step[0]);
            check.due("b from " + step[0] + " to " + step[1], desk.orbit(0, 0, 1), step[2]);
        }
    }

    /** Whether an orbit that passes within one error of a place can pass, in the same night, within another of another. */
    private static boolean canMeet(int place, int error, int other, int otherError) {
        Desk desk = new Desk();
        desk.observatory(error);
        desk.observatory(otherError);
        desk.plate(0, 0);
        desk.plate(1, 0);
        desk.dot(0, place, 0);
        desk.dot(1, other, 0);
        desk.body(0);
        return Check.outcome(() -> desk.link(0, 1)).equals("2");
    }

    private static void meet(int place, int error, int step, int otherError, boolean want) {
        int other = Math.floorMod(place + step, 3600);
        String told = place + " by " + error + " and " + other + " by " + otherError;
        check.due(told, canMeet(place, error, other, otherError) ? 1 : 0, want ? 1 : 0);
    }

    /** "Two places are APART by the fewer of the steps from one to the other, either way round". */
    private static void apartEitherWayRound() {
        int[][] errors = {{0, 0}, {0, 9}, {9, 0}, {9, 9}, {4, 5}, {1, 0}, {9, 8}};
        int[] places = {0, 1, 8, 9, 10, 17, 18, 19, 1790, 1799, 1800, 1801, 3580, 3581, 3582, 3590, 3591, 3598, 3599};
        for (int[] pair : errors) {
            int both = pair[0] + pair[1];
            for (int place : places) {
                for (int step : new int[] {-both, 0, both}) {
                    meet(place, pair[0], step, pair[1], true);
                }
                for (int step : new int[] {-both - 1, both + 1}) {
                    meet(place, pair[0], step, pair[1], false);
                }
            }
        }
    }

    /** "0 to 1800": no two places are farther apart, and none so far is taken for near. */
    private static void farthestApart() {
        for (int place : new int[] {0, 1, 1799, 1800, 1801, 3599}) {
            for (int step : new int[] {1700, 1799, 1800, 1801, 1900, 3500}) {
                meet(place, 9, step, 9, false);
            }
            meet(place, 9, 3600 - 18, 9, true);
            meet(place, 9, 3600 - 19, 9, false);
        }
    }

    /** "The ZONE of a place is the place divided by 400, rounded down, 0 to 8". */
    private static void zonesFromEdgeToEdge() {
        for (int shifted = 0; shifted < 9; shifted++) {
            Desk desk = new Desk();
            desk.observatory(0);
            desk.plate(0, 0);
            desk.shift(shifted, 1);
            for (int zone = 0; zone < 9; zone++) {
                for (int place : new int[] {400 * zone, 400 * zone + 1, 400 * zone + 398, 400 * zone + 399}) {
                    int due = zone == shifted ? (place + 1) % 3600 : place;
                    check.due("zone " + shifted + ", " + place, desk.ofDot(desk.dot(0, place, 0), 1), due);
                }
            }
        }
    }

    /** "each zone has a SHIFT, -9 to 9, 0 at first". */
    private static void noShiftAtFirst() {
        Desk desk = new Desk();
        for (int zone = 0; zone < 9; zone++) {
            check.due("at first, of zone " + zone, desk.shift(zone, zone % 2 == 0 ? -9 : 9), 0);
        }
        for (int zone = 0; zone < 9; zone++) {
            check.due("the one told, of zone " + zone, desk.shift(zone, 0), zone % 2 == 0 ? -9 : 9);
            check.due("the latest one, of zone " + zone, desk.shift(zone, zone), 0);
            check.due("each zone by itself, " + zone, desk.shift(zone, -zone), zone);
        }
    }

    /** "its measured place and the shift of the zone of that, together, modulo 3600". */
    private static void trueRoundTheCircle() {
        int[][] rows = {{0, -9, 3591}, {0, -1, 3599}, {0, 0, 0}, {0, 9, 9}, {8, -9, 3599}, {9, -9, 0}, {10, -9, 1},
            {3599, 9, 8}, {3599, 1, 0}, {3599, 0, 3599}, {3599, -9, 3590}, {3591, 9, 0}, {3590, 9, 3599}, {3592, 9, 1}};
        for (int[] row : rows) {
            Desk desk = Desks.eachABody(0, 0, row[0]);
            desk.shift(row[0] / 400, row[1]);
            check.due(row[0] + " shifted by " + row[1], desk.ofDot(0, 1), row[2]);
            check.due("its orbits by the true place", desk.where(0, 0, 0), row[2]);
            check.due("all its orbits", desk.orbitsAnew(0), 405);
        }
    }

    /** "the shift of the zone of that": of the measured place, also if the true one is in another zone. */
    private static void zoneOfTheMeasuredPlace() {
        Desk desk = Desks.eachABody(0, 0, 399, 0, 400, 0, 3599, 0, 0);
        desk.shift(0, 9);
        desk.shift(1, -9);
        desk.shift(8, 5);
        check.due("out of zone 0 into zone 1", desk.ofDot(0, 1), 408);
        check.due("out of zone 1 into zone 0", desk.ofDot(1, 1), 391);
        check.due("out of zone 8 into zone 0", desk.ofDot(2, 1), 4);
        check.due("within zone 0", desk.ofDot(3, 1), 9);
        desk.shift(0, -9);
        check.due("out of zone 0 into zone 8", desk.ofDot(3, 1), 3591);
    }

    /** "by the shifts of now": those told before the dot was made, and those told later. */
    private static void shiftsOfNow() {
        Desk desk = new Desk();
        desk.observatory(0);
        desk.plate(0, 0);
        desk.shift(0, 9);
        desk.dot(0, 100, 0);
        check.due("told before", desk.ofDot(0, 1), 109);
        desk.shift(0, -9);
        check.due("told later", desk.ofDot(0, 1), 91);
        desk.shift(0, 0);
        check.due("taken back", desk.ofDot(0, 1), 100);
    }

    /** "are apart by the error of the observatory of the plate, or less": each error, and the first beyond it. */
    private static void fitsByTheErrorOrLess() {
        for (int error = 0; error < 10; error++) {
            for (int place : new int[] {0, 5, 1800, 3594, 3599}) {
                for (int step = -error; step <= error; step += Math.max(1, error)) {
                    meet(place, 0, step, error, true);
                    meet(place, error, step, 0, true);
                }
                for (int step : new int[] {-error - 1, error + 1}) {
                    meet(place, 0, step, error, false);
                    meet(place, error, step, 0, false);
                }
            }
        }
    }

    /** The same in nights when b and c have led the orbit round the circle, as far as night 999. */
    private static void fitsInALaterNight() {
        int[][] orbits = {{0, 40, 2}, {3599, -40, -2}, {1234, -7, 1}};
        for (int[] orbit : orbits) {
            for (int night : new int[] {2, 90, 360, 998, 999}) {
                for (int step = -4; step <= 4; step++) {
                    Desk desk = exact(orbit);
                    desk.observatory(3);
                    int seen = Math.floorMod(placeOf(orbit, night) + step, 3600);
                    int dot = desk.dot(desk.plate(1, night), seen, 0);
                    String due = Math.abs(step) <= 3 ? "4" : "throws IllegalStateException";
                    check.due("night " + night + ", step " + step, Check.outcome(() -> desk.link(0, dot)), due);
                }
            }
        }
    }

    private static int placeOf(int[] orbit, long night) {
        return (int) Math.floorMod(orbit[0] + orbit[1] * night + orbit[2] * (night * (night - 1) / 2), 3600L);
    }

    /** A body with this orbit alone. */
    private static Desk exact(int[] orbit) {
        return Desks.oneBody(0, 0, placeOf(orbit, 0), 1, placeOf(orbit, 1), 2, placeOf(orbit, 2));
    }

    /** Body 0 with a look in night 0, and those of the next nights that can be linked to it. */
    private static Desk asFarAsItFits(int... places) {
        Desk desk = Desks.seen(0);
        for (int night = 0; night < places.length; night++) {
            desk.dot(desk.plate(0, night), places[night], 0);
        }
        desk.body(0);
        for (int night = 1; night < places.length; night++) {
            int dot = night;
            Check.outcome(() -> desk.link(0, dot));
        }
        return desk;
    }

    /** "b, -40 to 40". */
    private static void bFromLeastToGreatest() {
        for (int place : new int[] {1000, 0, 39, 40, 41, 3559, 3560, 3599}) {
            for (int b : new int[] {-41, -40, -39, 39, 40, 41}) {
                int next = Math.floorMod(place + b, 3600);
                Desk desk = asFarAsItFits(place, next);
                boolean isThere = Math.abs(b) <= 40;
                check.due("looks from " + place + " by " + b, desk.ofBody(0, 0), isThere ? 2 : 1);
                check.due("orbits from " + place + " by " + b, desk.orbits(0), isThere ? 5 : 405);
                check.due("b from " + place + " by " + b, desk.orbit(0, 0, 1), isThere ? b : -40);
                check.due("anew from " + place + " by " + b, desk.orbitsAnew(0), isThere ? 5 : 405);
            }
        }
    }

    /** "and c, -2 to 2". */
    private static void cFromLeastToGreatest() {
        for (int place : new int[] {1000, 0, 3599}) {
            for (int b : new int[] {-40, 0, 40}) {
                for (int c = -3; c <= 3; c++) {
                    int[] orbit = {place, b, c};
                    Desk desk = asFarAsItFits(place, placeOf(orbit, 1), placeOf(orbit, 2));
                    boolean isThere = Math.abs(c) <= 2;
                    String told = " from " + place + " by " + b + " and " + c;
                    check.due("looks" + told, desk.ofBody(0, 0), isThere ? 3 : 2);
                    check.due("orbits" + told, desk.orbits(0), isThere ? 1 : 5);
                    check.due("anew" + told, desk.orbitsAnew(0), isThere ? 1 : 5);
                    check.due("a" + told, desk.orbit(0, 0, 0), place);
                    check.due("b" + told, desk.orbit(0, 0, 1), b);
                    check.due("c" + told, desk.orbit(0, 0, 2), isThere ? c : -2);
                }
            }
        }
    }

    /** "in the night t its place is a, b times t, and c times (t times (t less 1), divided by 2), ... modulo 3600". */
    private static void placesOfOrbits() {
        int[][] orbits = {{0, 0, 0}, {3599, 40, 2}, {0, -40, -2}, {3599, -40, 2}, {0, 40, -2}, {1800, 1, 1}, {7, 0, -1}};
        for (int[] orbit : orbits) {
            Desk desk = exact(orbit);
            for (int night : new int[] {0, 1, 2, 3, 30, 60, 89, 90, 91, 359, 360, 361, 500, 998, 999}) {
                String told = "orbit " + orbit[0] + " " + orbit[1] + " " + orbit[2] + " in night " + night;
                check.due("places, " + told, desk.spread(0, night), 1);
                check.due(told, desk.where(0, night, 0), placeOf(orbit, night));
            }
        }
        // By hand: 3599 and 40 times 999 and 2 times 498501 are 1040561, which is 289 times 3600 and 161.
        check.due("by hand, from the last place", exact(orbits[1]).where(0, 999, 0), 161);
        check.due("by hand, from the first one", exact(orbits[2]).where(0, 999, 0), 3438);
    }

    /** "Orbits are in the order of their a, then b, then c, the lower ones first". */
    private static void orderOfOrbits() {
        // A look at 0 in night 1 leaves to each b and c the three a round 0 less b: from 3559, by way of 0, to 41.
        Desk[] desks = new Desk[3];
        for (int what = 0; what < 3; what++) {
            desks[what] = Desks.oneBody(1, 1, 0);
            check.due("three places for each b and c", desks[what].orbits(0), 1215);
        }
        int before = -1;
        for (int i = 0; i < 1215; i++) {
            if (i % 400 == 399) {
                for (int what = 0; what < 3; what++) {
                    desks[what] = Desks.oneBody(1, 1, 0);
                }
            }
            int a = desks[0].orbit(0, i, 0);
            int b = desks[1].orbit(0, i, 1);
            int c = desks[2].orbit(0, i, 2);
            int rank = a * 1000 + (b + 40) * 10 + c + 2;
            check.due("orbit " + i + " comes behind the one before", rank > before ? 1 : 0, 1);
            int seen = Math.floorMod(a + b, 3600);
            check.due("orbit " + i + " fits", Math.min(seen, 3600 - seen) <= 1 ? 1 : 0, 1);
            before = rank;
        }
        check.due("the last one's a", before / 1000, 3599);
    }
}
