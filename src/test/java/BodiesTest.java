/** Promises 7 to 13: body, link, unlink, join, part, number, ofBody. */
public final class BodiesTest {
    private static final int NONE = PlanetoidDesk.NONE;
    private static final int[] NO_SUCH = {-1, Integer.MIN_VALUE, Integer.MAX_VALUE};
    private static final Check check = new Check();

    public static void main(String[] args) {
        body();
        mostBodies();
        link();
        linkByPlates();
        linkWithoutOrbits();
        unlink();
        join();
        stronger();
        firstLookByJoinedOnes();
        joinByPlatesAndOrbits();
        part();
        number();
        numberByNights();
        numberedBodies();
        ofBody();
        deepJoins();
        check.end("BodiesTest");
    }

    /** Observatories of errors 0 and 2, a plate of each in each of the nights: 2i and 2i + 1 in night nights[i]. */
    private static Desk desk(int... nights) {
        Desk desk = new Desk();
        desk.observatory(0);
        desk.observatory(2);
        for (int night : nights) {
            desk.plate(0, night);
            desk.plate(1, night);
        }
        return desk;
    }

    private static void body() {
        Desk desk = desk(0);
        desk.dot(0, 0, 0);
        desk.dot(0, 9, 0);
        for (int dot : new int[] {-1, 2, Integer.MIN_VALUE, Integer.MAX_VALUE}) {
            check.index("body of dot " + dot, () -> desk.body(dot));
        }
        check.due("the first body", desk.body(1), 0);
        check.state("a dot of a body", () -> desk.body(1));
        check.due("the second body", desk.body(0), 1);
        check.due("its own dot", desk.ofDot(0, 3), 1);
        check.due("it is free", desk.ofBody(1, 2), NONE);
        check.due("it has no number", desk.ofBody(1, 5), NONE);
    }

    private static void mostBodies() {
        Desk desk = desk(0);
        for (int i = 0; i < 22; i++) {
            desk.dot(0, 100 * i, 0);
        }
        for (int i = 0; i < 20; i++) {
            check.due("body " + i, desk.body(i), i);
        }
        check.state("a body too many", () -> desk.body(20));
        check.index("a body too many of no dot", () -> desk.body(22));
        check.due("the dot stays unlinked", desk.ofDot(20, 3), NONE);
        check.due("the last body", desk.ofBody(19, 4), 19);
        check.index("no body beyond the last", () -> desk.ofBody(20, 0));
    }

    private static void link() {
        Desk desk = desk(0, 10, 20);
        desk.dot(0, 100, 0);
        desk.dot(2, 150, 0);
        desk.dot(4, 200, 0);
        desk.dot(4, 201, 0);
        desk.dot(4, 3000, 0);
        desk.body(0);
        desk.body(4);
        for (int no : NO_SUCH) {
            check.index("link to body " + no, () -> desk.link(no, 1));
            check.index("link of dot " + no, () -> desk.link(0, no));
        }
        check.index("link to a body that there is not", () -> desk.link(2, 1));
        check.index("link of a dot that there is not", () -> desk.link(0, 5));
        check.index("no such dot, of a body where none could be linked", () -> desk.link(1, 5));
        check.state("its own dot", () -> desk.link(0, 0));
        check.state("another body's dot", () -> desk.link(0, 4));
        check.due("looks after the first link", desk.link(0, 1), 2);
        check.due("the dot is its own then", desk.ofDot(1, 3), 0);
        check.state("no orbit fits all three", () -> desk.link(0, 3));
        check.due("the dot stays unlinked", desk.ofDot(3, 3), NONE);
        check.due("the looks stay", desk.ofBody(0, 0), 2);
        check.due("looks after the second link", desk.link(0, 2), 3);
        Desk joined = desk(0, 10, 20);
        joined.dot(0, 100, 0);
        joined.dot(2, 150, 0);
        joined.dot(4, 200, 0);
        joined.body(0);
        joined.body(1);
        joined.join(0, 1);
        check.state("link to a body that is not free", () -> joined.link(1, 2));
        check.due("all looks, the joined ones' too", joined.link(0, 2), 3);
        check.due("own dots", joined.ofBody(0, 1), 2);
    }

    private static void linkByPlates() {
        Desk desk = desk(0, 10);
        desk.dot(0, 100, 0);
        desk.dot(0, 100, 0);
        desk.dot(1, 101, 0);
        desk.dot(2, 150, 0);
        desk.dot(2, 150, 0);
        desk.dot(3, 150, 0);
        desk.body(0);
        check.state("two looks on one plate, though an orbit fits them", () -> desk.link(0, 1));
        check.due("another plate in the same night", desk.link(0, 2), 2);
        desk.body(3);
        desk.join(0, 1);
        check.state("a joined look on the plate", () -> desk.link(0, 4));
        check.due("another plate than that of the joined look", desk.link(0, 5), 4);
        desk.part(0);
        check.due("the plate is open again", desk.link(0, 4), 4);
    }

    private static void linkWithoutOrbits() {
        Desk desk = desk(0, 1, 2);
        desk.dot(0, 100, 0);
        desk.dot(2, 400, 0);
        desk.dot(4, 400, 0);
        desk.body(0);
        check.state("too far in a night", () -> desk.link(0, 1));
        Desk lost = desk(0, 1, 2);
        lost.dot(0, 390, 0);
        lost.dot(2, 420, 0);
        lost.dot(4, 450, 0);
        lost.body(0);
        lost.body(2);
        lost.link(0, 1);
        lost.shift(1, 9);
        check.due("an orbit of b 39 still", lost.orbits(0), 5);
        lost.shift(0, -9);
        check.due("no orbits after the shifts", lost.orbits(0), 0);
        check.state("a body without orbits takes none", () -> lost.join(0, 1));
        check.due("no candidates", lost.candidates(0), 0);
        lost.shift(0, 0);
        lost.shift(1, 0);
        check.due("it has its orbits again", lost.orbits(0), 5);
        check.due("and takes one", lost.join(0, 1), 0);
    }

    private static void unlink() {
        Desk desk = desk(0, 10, 20);
        desk.dot(0, 100, 0);
        desk.dot(2, 150, 0);
        desk.dot(4, 200, 0);
        desk.body(0);
        desk.link(0, 1);
        desk.body(2);
        desk.join(0, 1);
        for (int no : NO_SUCH) {
            check.index("unlink of body " + no, () -> desk.unlink(no, 1));
            check.index("unlink of dot " + no, () -> desk.unlink(0, no));
        }
        check.index("unlink of a body that there is not", () -> desk.unlink(2, 0));
        check.index("unlink of a dot that there is not", () -> desk.unlink(0, 3));
        check.state("a look that is no own dot", () -> desk.unlink(0, 2));
        check.state("another's dot", () -> desk.unlink(1, 1));
        check.state("the only one", () -> desk.unlink(1, 2));
        check.due("own dots left", desk.unlink(0, 0), 1);
        check.due("it is unlinked", desk.ofDot(0, 3), NONE);
        check.state("it is no own dot any more", () -> desk.unlink(0, 0));
        check.state("the only own dot, though there are joined ones", () -> desk.unlink(0, 1));
        check.due("the looks left", desk.ofBody(0, 0), 2);
        check.due("it can be linked again", desk.link(0, 0), 3);
        desk.part(0);
        desk.unlink(0, 1);
        desk.link(1, 1);
        desk.join(0, 1);
        check.due("from a joined body", desk.unlink(1, 2), 1);
        check.due("what the host has then", desk.ofBody(0, 0), 2);
        check.due("a dot that no body has can become one", desk.body(2), 2);
    }

    private static void join() {
        Desk desk = desk(0, 10, 20, 30);
        for (int i = 0; i < 4; i++) {
            desk.dot(2 * i, 100 + 50 * i, 0);
            desk.body(i);
        }
        for (int no : new int[] {-1, 4, Integer.MIN_VALUE, Integer.MAX_VALUE}) {
            check.index("join " + no, () -> desk.join(no, 0));
            check.index("join of " + no, () -> desk.join(0, no));
            check.index("neither is there", () -> desk.join(no, no));
        }
        check.state("a body and itself", () -> desk.join(1, 1));
        check.due("the stronger one", desk.join(2, 1), 1);
        check.due("the other one is joined to it", desk.ofBody(2, 2), 1);
        check.state("one that is not free", () -> desk.join(2, 3));
        check.state("another that is not free", () -> desk.join(3, 2));
        check.state("the two again", () -> desk.join(1, 2));
        check.due("a joined one is joined on", desk.join(0, 1), 0);
        check.due("what is joined stays so", desk.ofBody(2, 2), 1);
        check.due("all looks", desk.ofBody(0, 0), 3);
        check.due("joined by themselves", desk.ofBody(0, 6), 1);
        check.due("both have joined ones", desk.join(3, 0), 0);
        check.due("all four", desk.ofBody(0, 0), 4);
        check.due("two by themselves", desk.ofBody(0, 6), 2);
        Desk lowest = desk(10, 0);
        lowest.dot(0, 150, 0);
        lowest.dot(2, 100, 0);
        lowest.body(0);
        lowest.body(1);
        check.due("body 0 is the weaker", lowest.join(0, 1), 1);
        check.due("body 0 is counted", lowest.ofBody(1, 6), 1);
        check.due("body 0 is parted", lowest.part(1), 0);
    }

    private static void stronger() {
        Desk alike = desk(5, 5);
        alike.dot(2, 100, 0);
        alike.dot(0, 100, 0);
        alike.body(1);
        alike.body(0);
        check.due("of alike nights the lower dot, not the lower body", alike.join(0, 1), 1);
        alike.part(1);
        check.due("whatever the order of the call", alike.join(1, 0), 1);
        Desk desk = desk(0, 10, 20);
        desk.dot(4, 200, 0);
        desk.dot(2, 150, 0);
        desk.dot(0, 100, 0);
        desk.body(0);
        desk.body(1);
        desk.body(2);
        check.due("the higher dot of the lesser night", desk.join(0, 1), 1);
        desk.part(1);
        check.due("whatever the order", desk.join(1, 0), 1);
        check.due("the lesser night of the highest dot", desk.join(1, 2), 2);
    }

    private static void firstLookByJoinedOnes() {
        Desk desk = desk(0, 10, 20, 30);
        desk.dot(2, 150, 0);
        desk.dot(0, 100, 0);
        desk.dot(4, 200, 0);
        desk.dot(6, 250, 0);
        desk.body(2);
        desk.link(0, 1);
        desk.body(3);
        desk.join(0, 1);
        desk.unlink(0, 1);
        desk.body(0);
        check.due("by now the other's first look is the lesser", desk.join(0, 2), 2);
        desk.part(2);
        desk.part(0);
        desk.link(1, 1);
        desk.join(1, 0);
        check.due("a body joined to it has the least night", desk.ofBody(1, 4), 1);
        check.due("its night decides", desk.join(2, 1), 1);
    }

    private static void joinByPlatesAndOrbits() {
        Desk desk = desk(0, 10, 20, 30);
        desk.dot(0, 100, 0);
        desk.dot(0, 100, 0);
        desk.dot(2, 150, 0);
        desk.dot(4, 205, 0);
        desk.dot(2, 150, 0);
        for (int i = 0; i < 5; i++) {
            desk.body(i);
        }
        check.state("looks of both on a plate", () -> desk.join(0, 1));
        check.due("two that fit", desk.join(0, 2), 0);
        check.due("other two", desk.join(4, 3), 4);
        check.state("joined looks on a plate", () -> desk.join(4, 0));
        desk.part(4);
        check.state("no orbit fits all three", () -> desk.join(3, 0));
        check.due("nothing is joined by that", desk.ofBody(0, 6), 1);
        check.due("nor to it", desk.ofBody(3, 2), NONE);
        Desk far = desk(0, 1);
        far.dot(0, 100, 0);
        far.dot(2, 141, 0);
        far.dot(3, 142, 0);
        far.dot(3, 143, 0);
        for (int i = 0; i < 4; i++) {
            far.body(i);
        }
        check.state("41 in a night", () -> far.join(0, 1));
        check.due("42 with an error of 2", far.join(0, 2), 0);
        check.state("43 with an error of 2", () -> far.join(0, 3));
    }

    private static void part() {
        Desk desk = desk(0, 10, 20, 30, 40);
        for (int i = 0; i < 5; i++) {
            desk.dot(2 * i, 100 + 50 * i, 0);
            desk.body(i);
        }
        for (int no : new int[] {-1, 5, Integer.MIN_VALUE, Integer.MAX_VALUE}) {
            check.index("part " + no, () -> desk.part(no));
        }
        check.state("none is joined", () -> desk.part(0));
        desk.join(0, 3);
        desk.join(0, 1);
        desk.join(0, 4);
        check.due("the latest", desk.part(0), 4);
        check.due("it is free", desk.ofBody(4, 2), NONE);
        check.due("the one before", desk.part(0), 1);
        desk.join(1, 2);
        desk.join(0, 1);
        desk.join(0, 4);
        check.due("from a joined one", desk.part(1), 2);
        check.due("the looks of the host", desk.ofBody(0, 0), 4);
        check.state("it has none any more", () -> desk.part(1));
        check.due("again the latest", desk.part(0), 4);
        check.due("the next", desk.part(0), 1);
        check.due("the last one", desk.part(0), 3);
        desk.join(0, 1);
        desk.join(0, 3);
        desk.join(0, 4);
        desk.part(0);
        desk.part(0);
        desk.join(0, 4);
        check.due("joined once more, so the latest", desk.join(3, 0), 0);
        check.due("by the order of the joins, not of the bodies", desk.part(0), 3);
        check.due("then the one joined anew ahead of it", desk.part(0), 4);
        check.due("then the oldest", desk.part(0), 1);
    }

    private static void number() {
        Desk desk = desk(0, 15, 30);
        desk.dot(0, 100, 0);
        desk.dot(2, 115, 0);
        desk.dot(4, 130, 0);
        desk.dot(0, 1100, 0);
        desk.dot(2, 1130, 0);
        desk.dot(4, 1160, 0);
        desk.dot(1, 2100, 0);
        desk.dot(3, 2130, 0);
        desk.dot(5, 2160, 0);
        desk.body(0);
        desk.body(3);
        desk.body(6);
        for (int no : new int[] {-1, 3, Integer.MIN_VALUE, Integer.MAX_VALUE}) {
            check.index("number of " + no, () -> desk.number(no));
        }
        check.state("one look", () -> desk.number(0));
        desk.link(0, 1);
        check.state("two looks", () -> desk.number(0));
        desk.link(1, 4);
        desk.link(1, 5);
        check.due("the first number", desk.number(1), 1);
        desk.link(0, 2);
        check.due("the second number", desk.number(0), 2);
        check.state("it has one", () -> desk.number(1));
        desk.link(2, 7);
        desk.link(2, 8);
        check.state("several orbits", () -> desk.number(2));
        check.due("several orbits", desk.orbits(2) > 1 ? 1 : 0, 1);
        check.due("the number is told", desk.ofBody(1, 5), 1);
        check.due("no number is told", desk.ofBody(2, 5), NONE);
    }

    private static void numberByNights() {
        int[][] nights = {{0, 15, 29}, {0, 15, 30}, {0, 30, 30}, {0, 0, 30}, {969, 970, 999}, {15, 0, 30}, {100, 110, 129},
            {130, 101, 100}};
        boolean[] fits = {false, true, false, false, true, true, false, true};
        for (int i = 0; i < nights.length; i++) {
            Desk desk = desk(nights[i]);
            for (int k = 0; k < 3; k++) {
                desk.dot(2 * k, 100, 0);
            }
            desk.body(0);
            desk.link(0, 1);
            desk.link(0, 2);
            String got = Check.outcome(() -> desk.number(0));
            if (fits[i]) {
                check.due("nights " + i, got, desk.orbits(0) == 1 ? "1" : "throws IllegalStateException");
                check.due("one orbit " + i, desk.orbits(0), 1);
            } else {
                check.due("nights " + i, got, "throws IllegalStateException");
            }
        }
        Desk joined = desk(0, 10, 40);
        for (int k = 0; k < 3; k++) {
            joined.dot(2 * k, 100, 0);
            joined.body(k);
        }
        joined.join(1, 2);
        check.state("two nights of three", () -> joined.number(1));
        joined.join(0, 1);
        check.state("not free", () -> joined.number(1));
        check.due("nights of joined looks", joined.number(0), 1);
        joined.part(0);
        check.due("the number stays", joined.ofBody(0, 5), 1);
        check.due("the other has none", joined.ofBody(1, 5), NONE);
    }

    private static void numberedBodies() {
        Desk desk = desk(0, 50, 100, 150, 200, 250, 300);
        for (int i = 0; i < 7; i++) {
            desk.dot(2 * i, 100, 0);
        }
        desk.body(4);
        desk.link(0, 5);
        desk.link(0, 6);
        desk.body(0);
        desk.link(1, 1);
        check.due("a number", desk.number(0), 1);
        check.due("the numbered one is the stronger", desk.join(1, 0), 0);
        desk.part(0);
        check.due("whatever the order", desk.join(0, 1), 0);
        desk.part(0);
        desk.link(1, 2);
        desk.number(1);
        check.state("both have numbers", () -> desk.join(0, 1));
        check.due("a numbered one still takes dots", desk.link(0, 3), 4);
        check.due("and loses them", desk.unlink(0, 5), 3);
        desk.unlink(0, 6);
        desk.unlink(0, 4);
        check.due("the number stays", desk.ofBody(0, 5), 1);
        check.due("the orbits are by the looks of now", desk.orbits(0), 405);
        check.state("no new number", () -> desk.number(0));
    }

    private static void ofBody() {
        Desk desk = desk(10, 0, 20);
        desk.dot(0, 150, 0);
        desk.dot(3, 100, 0);
        desk.dot(4, 200, 0);
        desk.body(0);
        desk.body(2);
        desk.link(0, 1);
        desk.join(0, 1);
        int[] ofHost = {3, 2, NONE, 1, 1, NONE, 1};
        int[] ofJoined = {1, 1, 0, 0, 2, NONE, 0};
        for (int what = 0; what < 7; what++) {
            check.due("of the host " + what, desk.ofBody(0, what), ofHost[what]);
            check.due("of the joined one " + what, desk.ofBody(1, what), ofJoined[what]);
        }
        desk.unlink(0, 1);
        check.due("the credit goes with the first look", desk.ofBody(0, 3), 0);
        check.due("the first look of now", desk.ofBody(0, 4), 0);
        for (int no : new int[] {-1, 2, Integer.MIN_VALUE, Integer.MAX_VALUE}) {
            check.index("of body " + no, () -> desk.ofBody(no, 0));
            check.index("the body comes first", () -> desk.ofBody(no, 7));
        }
        for (int what : new int[] {-1, 7, Integer.MIN_VALUE, Integer.MAX_VALUE}) {
            check.argument("what " + what, () -> desk.ofBody(0, what));
        }
        Desk alike = desk(5, 5);
        alike.dot(3, 100, 0);
        alike.dot(0, 100, 0);
        alike.body(1);
        alike.link(0, 0);
        check.due("of alike nights the lower dot", alike.ofBody(0, 4), 0);
        check.due("and its observatory", alike.ofBody(0, 3), 1);
    }

    private static void deepJoins() {
        Desk desk = new Desk();
        desk.observatory(9);
        for (int i = 0; i < 21; i++) {
            desk.plate(0, 20 - i);
            desk.dot(i, 100, i);
        }
        desk.body(0);
        for (int i = 1; i < 20; i++) {
            desk.body(i);
            check.due("each is joined to the next", desk.join(i - 1, i), i);
        }
        check.due("the looks of the last", desk.ofBody(19, 0), 20);
        check.due("its own dots", desk.ofBody(19, 1), 1);
        check.due("the looks of one amid them", desk.ofBody(7, 0), 8);
        check.due("the first look of one amid them", desk.ofBody(7, 4), 7);
        check.due("the free one takes a dot", desk.link(19, 20), 21);
        check.due("part amid them", desk.part(10), 9);
        check.due("the looks of the last then", desk.ofBody(19, 0), 11);
        check.due("the looks of the freed one", desk.ofBody(9, 0), 10);
    }
}
