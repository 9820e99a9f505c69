/** Every call on a desk with nothing on it, and on one with all that there can be: 6, 30, 60 and 20. */
public final class EmptyAndFullDeskTest {
    private static final int NONE = PlanetoidDesk.NONE;
    private static final int[] NO_SUCH = {0, 1, -1, Integer.MIN_VALUE, Integer.MAX_VALUE};
    private static final Check check = new Check();

    public static void main(String[] args) {
        emptyOfPlates();
        emptyOfBodies();
        emptyOfNumbers();
        observatoriesAlone();
        platesAlone();
        dotsAlone();
        fullOfDots();
        joinsAmidSixtyDots();
        fullOfBodies();
        fullOfNumbers();
        fullOfLooks();
        fullChain();
        wideBody();
        lastOfFiveHundredAndTwelve();
        objectsShareNothing();
        check.end("EmptyAndFullDeskTest");
    }

    /** "No observatories, plates, dots and bodies; no shifts": nothing can be put where nothing is. */
    private static void emptyOfPlates() {
        Refusals refusals = new Refusals(check, Desk::new);
        for (int no : NO_SUCH) {
            refusals.index("a plate of observatory " + no, desk -> desk.plate(no, 0));
            refusals.index("a plate of observatory " + no + " in no night", desk -> desk.plate(no, 1000));
            refusals.index("a dot on plate " + no, desk -> desk.dot(no, 0, 0));
            refusals.index("a dot on plate " + no + " at no place", desk -> desk.dot(no, 3600, 0));
            refusals.index("of dot " + no, desk -> desk.ofDot(no, 0));
            refusals.index("of dot " + no + ", nothing", desk -> desk.ofDot(no, 4));
        }
        refusals.argument("an observatory of no error", desk -> desk.observatory(10));
        refusals.argument("a shift too far", desk -> desk.shift(0, 10));
        refusals.index("a shift of no zone", desk -> desk.shift(9, 0));
    }

    private static void emptyOfBodies() {
        Refusals refusals = new Refusals(check, Desk::new);
        for (int no : NO_SUCH) {
            refusals.index("a body of dot " + no, desk -> desk.body(no));
            refusals.index("link " + no, desk -> desk.link(no, no));
            refusals.index("unlink " + no, desk -> desk.unlink(no, no));
            refusals.index("join " + no, desk -> desk.join(no, no));
            refusals.index("part " + no, desk -> desk.part(no));
            refusals.index("number " + no, desk -> desk.number(no));
            refusals.index("of body " + no, desk -> desk.ofBody(no, 7));
            refusals.index("orbits " + no, desk -> desk.orbits(no));
            refusals.index("orbitsAnew " + no, desk -> desk.orbitsAnew(no));
            refusals.index("orbit " + no, desk -> desk.orbit(no, 0, 3));
            refusals.index("spread " + no, desk -> desk.spread(no, 1000));
            refusals.index("where " + no, desk -> desk.where(no, 1000, -1));
            refusals.index("candidates " + no, desk -> desk.candidates(no));
            refusals.index("chance " + no, desk -> desk.chance(no, 999, 61, true));
            refusals.index("family " + no, desk -> desk.family(no, 91));
            refusals.index("turn " + no, desk -> desk.turn(no, true));
        }
    }

    /** "0 without numbers". */
    private static void emptyOfNumbers() {
        Desk desk = new Desk();
        check.due("families by the least measure", desk.families(0), 0);
        check.due("families by the greatest", desk.families(90), 0);
        Refusals refusals = new Refusals(check, Desk::new);
        refusals.argument("families by less", empty -> empty.families(-1));
        refusals.argument("families by more", empty -> empty.families(91));
    }

    /** Numbers begin with 0 for each kind by itself. */
    private static void observatoriesAlone() {
        Desk desk = new Desk();
        check.due("the first observatory", desk.observatory(0), 0);
        check.index("no second observatory", () -> desk.plate(1, 0));
        check.index("no plate yet", () -> desk.dot(0, 0, 0));
        check.due("the first plate", desk.plate(0, 0), 0);
    }

    private static void platesAlone() {
        Desk desk = new Desk();
        desk.observatory(0);
        desk.plate(0, 0);
        check.index("no second plate", () -> desk.dot(1, 0, 0));
        check.index("no dot yet", () -> desk.ofDot(0, 0));
        check.index("no dot for a body", () -> desk.body(0));
        check.due("the first dot", desk.dot(0, 0, 0), 0);
    }

    private static void dotsAlone() {
        Desk desk = Desks.seen(0, 0, 0);
        check.index("no second dot", () -> desk.ofDot(1, 0));
        check.index("no body yet", () -> desk.ofBody(0, 0));
        check.index("no body to link to", () -> desk.link(0, 0));
        check.due("the first dot is unlinked", desk.ofDot(0, 3), NONE);
        check.due("the first body", desk.body(0), 0);
        check.index("no second body", () -> desk.ofBody(1, 0));
        check.index("no second body to join", () -> desk.join(0, 1));
    }

    /** "at most 6", "at most 30", "at most 60": the last ones are as good as the first ones. */
    private static void fullOfDots() {
        Refusals refusals = new Refusals(check, Desks::full);
        refusals.state("a seventh observatory", desk -> desk.observatory(0));
        refusals.state("a plate too many", desk -> desk.plate(0, 0));
        refusals.state("a plate too many of the last observatory", desk -> desk.plate(5, 999));
        refusals.state("a dot too many", desk -> desk.dot(0, 0, 0));
        refusals.state("a dot too many on the last plate", desk -> desk.dot(29, 3599, 99));
        Desk desk = Desks.full();
        int[] ofTheLast = {999, 3599, 99, NONE};
        for (int what = 0; what < 4; what++) {
            check.due("of the last dot " + what, desk.ofDot(59, what), ofTheLast[what]);
        }
        check.due("the last dot's shift", desk.shift(8, 1), 0);
        check.due("the last dot, shifted", desk.ofDot(59, 1), 0);
        desk.unlink(9, 29);
        check.due("the last dot of a body", desk.ofBody(9, 1), 2);
    }

    /** Behind the last one of 60 dots there is none that could be taken for a look of the first body on the first plate. */
    private static void joinsAmidSixtyDots() {
        Desk desk = Desks.seen(9);
        desk.plate(0, 0);
        desk.plate(0, 1);
        for (int dot = 0; dot < 60; dot++) {
            desk.dot(dot % 2, 100, 0);
        }
        desk.body(1);
        desk.body(0);
        check.due("the first body has looks on the second plate alone", desk.join(0, 1), 1);
        check.due("parted", desk.part(1), 0);
        check.due("the other way round", desk.join(1, 0), 1);
        check.due("both plates are closed", desk.candidates(1), 0);
        check.due("parted again", desk.part(1), 0);
        check.due("the dots of the first plate", desk.candidates(0), 29);
        check.due("one of them", desk.link(0, 58), 2);
        check.state("a plate with looks of both", () -> desk.join(0, 1));
    }

    /** "at most 20". */
    private static void fullOfBodies() {
        Refusals refusals = new Refusals(check, Desks::full);
        refusals.state("a body too many", desk -> desk.body(40));
        refusals.state("a body too many of the last dot", desk -> desk.body(59));
        refusals.state("one too many of a linked dot", desk -> desk.body(0));
        refusals.index("one too many of no dot", desk -> desk.body(60));
        Desk desk = Desks.full();
        int[][] due = {{3, 3, NONE, 0, 0, 1, 0}, {3, 3, NONE, 0, 27, 10, 0}, {3, 1, NONE, 3, 30, NONE, 2},
            {1, 1, 10, 4, 31, NONE, 0}, {1, 1, NONE, 0, 39, NONE, 0}};
        int[] bodies = {0, 9, 10, 11, 19};
        for (int i = 0; i < bodies.length; i++) {
            for (int what = 0; what < 7; what++) {
                check.due("of body " + bodies[i] + ", " + what, desk.ofBody(bodies[i], what), due[i][what]);
            }
        }
        check.due("a dot for the last body", desk.link(19, 57), 2);
        check.due("the last body's dots", desk.ofBody(19, 1), 2);
        check.due("the last body is the stronger one by that dot", desk.join(18, 19), 19);
        check.due("the one joined to the last body", desk.part(19), 18);
    }

    /** All 20 bodies with numbers: 60 dots on three plates. */
    private static void fullOfNumbers() {
        Desk desk = new Desk();
        desk.observatory(0);
        int[] nights = {0, 1, 30};
        for (int plate = 0; plate < 3; plate++) {
            desk.plate(0, nights[plate]);
        }
        for (int body = 0; body < 20; body++) {
            for (int plate = 0; plate < 3; plate++) {
                desk.dot(plate, (180 * body + 2 * body * nights[plate]) % 3600, 0);
            }
            check.due("body " + body, desk.body(3 * body), body);
            desk.link(body, 3 * body + 1);
            check.due("looks of body " + body, desk.link(body, 3 * body + 2), 3);
            check.due("number of body " + body, desk.number(body), body + 1);
        }
        check.due("twenty families", desk.families(0), 20);
        check.due("twenty families still", desk.families(1), 20);
        check.due("one family", desk.families(2), 1);
        check.due("from the last to the first", desk.family(19, 2), 0);
        check.due("the last alone", desk.family(19, 1), 19);
        check.due("the number of the last", desk.ofBody(19, 5), 20);
        check.state("the last has one", () -> desk.number(19));
    }

    /** A body with looks on all 30 plates; its own ones, and those of another one. */
    private static void fullOfLooks() {
        Desk desk = new Desk();
        desk.observatory(9);
        for (int plate = 0; plate < 30; plate++) {
            desk.plate(0, 999 - 30 * plate);
            desk.dot(plate, 100 + plate / 2, plate);
            desk.dot(plate, 1900, plate);
        }
        desk.body(0);
        for (int plate = 1; plate < 30; plate++) {
            check.due("look " + plate, desk.link(0, 2 * plate), plate + 1);
        }
        check.due("30 looks", desk.ofBody(0, 0), 30);
        check.due("the first look, of the last plate", desk.ofBody(0, 4), 58);
        check.due("no dot can be linked", desk.candidates(0), 0);
        check.state("no plate is left", () -> desk.link(0, 1));
        check.due("orbits", desk.orbits(0) > 0 ? 1 : 0, 1);
        check.due("orbits and anew", desk.orbits(0), desk.orbitsAnew(0));
        check.due("a look less", desk.unlink(0, 0), 29);
        check.due("and its plate is open, for itself alone", desk.candidates(0), 1);
    }

    /** Twenty bodies, each joined to the next one: as deep as looks can be. */
    private static void fullChain() {
        Desk desk = new Desk();
        desk.observatory(9);
        for (int plate = 0; plate < 30; plate++) {
            desk.plate(0, 29 - plate);
            desk.dot(plate, 100, plate);
        }
        for (int body = 0; body < 20; body++) {
            desk.body(body);
        }
        for (int body = 1; body < 20; body++) {
            check.due("join " + body, desk.join(body, body - 1), body);
        }
        for (int body = 0; body < 20; body++) {
            check.due("looks, however deep, of " + body, desk.ofBody(body, 0), body + 1);
            check.due("joined by themselves to " + body, desk.ofBody(body, 6), body > 0 ? 1 : 0);
            check.due("host of " + body, desk.ofBody(body, 2), body < 19 ? body + 1 : NONE);
            check.due("own dots of " + body, desk.ofBody(body, 1), 1);
            check.due("first look of " + body, desk.ofBody(body, 4), body);
        }
        check.due("the deepest look closes its plate, of 30 dots ten are left", desk.candidates(19), 10);
        for (int body = 19; body > 0; body--) {
            check.due("part " + body, desk.part(body), body - 1);
        }
        check.due("all are free", desk.ofBody(0, 2), NONE);
    }

    /** Nineteen bodies joined to one by themselves: the most that can be parted from it. */
    private static void wideBody() {
        Desk desk = new Desk();
        desk.observatory(9);
        for (int plate = 0; plate < 20; plate++) {
            desk.plate(0, plate);
            desk.dot(plate, 100, plate);
            desk.body(plate);
        }
        for (int body = 19; body > 0; body--) {
            check.due("join " + body, desk.join(0, body), 0);
        }
        check.due("nineteen by themselves", desk.ofBody(0, 6), 19);
        check.due("all looks", desk.ofBody(0, 0), 20);
        for (int body = 1; body < 20; body++) {
            check.due("the latest first", desk.part(0), body);
        }
        check.state("none is left", () -> desk.part(0));
    }

    /** "An object is used for at most 512 calls": the last of them is answered as the first ones are. */
    private static void lastOfFiveHundredAndTwelve() {
        Desk desk = Desks.eachABody(9, 0, 100, 1, 100, 2, 100);
        check.due("joined once and for all", desk.join(0, 2), 0);
        while (desk.callsLeft() > 4) {
            check.due("join", desk.join(0, 1), 0);
            check.due("part", desk.part(0), 1);
        }
        while (desk.callsLeft() > 3) {
            check.due("looks", desk.ofBody(0, 0), 2);
        }
        check.due("joined at last", desk.join(0, 1), 0);
        check.due("the latest of some 250 joins", desk.part(0), 1);
        check.due("the last call, the oldest join", desk.part(0), 2);
    }

    /** What is told to one desk, another one does not know. */
    private static void objectsShareNothing() {
        Desk first = new Desk();
        Desk second = new Desk();
        first.observatory(9);
        check.index("another's observatory", () -> second.plate(0, 0));
        first.plate(0, 5);
        second.observatory(0);
        check.index("another's plate", () -> second.dot(0, 0, 0));
        first.dot(0, 3, 4);
        second.plate(0, 6);
        check.index("another's dot", () -> second.body(0));
        first.shift(0, 9);
        second.dot(0, 7, 8);
        check.due("its own place, not shifted", second.ofDot(0, 1), 7);
        first.body(0);
        check.due("its own dot, unlinked", second.ofDot(0, 3), NONE);
        check.index("another's body", () -> second.orbits(0));
        check.due("its own body", second.body(0), 0);
        check.due("its own orbits", second.orbits(0), 405);
        check.due("the first one's orbits", first.orbits(0), 405 * 19);
    }
}
