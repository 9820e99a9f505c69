import java.util.function.Supplier;

/**
 * Every reason for which a call "cannot be done", each alone, with the nearest call that can be done beside it; what is
 * refused changes nothing.
 */
public final class RefusedStatesTest {
    private static final Check check = new Check();

    public static void main(String[] args) {
        observatory();
        plate();
        dot();
        bodyOfALinkedDot();
        bodyOnAFullDesk();
        linkOfALinkedDot();
        linkToAJoinedBody();
        linkOnAPlateOfALook();
        linkWithoutAnOrbit();
        unlinkOfNoOwnDot();
        unlinkOfTheOnlyOne();
        joinOfOne();
        joinOfOneThatIsNotFree();
        joinOfTwoNumbers();
        joinWithLooksOnAPlate();
        joinWithoutAnOrbit();
        part();
        numberOfOneThatIsNotFree();
        numberOfOneThatHasOne();
        numberByNights();
        numberByOrbits();
        check.end("RefusedStatesTest");
    }

    private static void refused(String what, Supplier<Desk> make, Desk.Step call) {
        new Refusals(check, make).state(what, call);
    }

    private static void done(String what, Supplier<Desk> make, Desk.Step call, int want) {
        check.due(what, Check.outcome(() -> call.on(make.get())), "" + want);
    }

    private static Supplier<Desk> with(Supplier<Desk> make, Desk.Step... calls) {
        return () -> {
            Desk desk = make.get();
            for (Desk.Step call : calls) {
                call.on(desk);
            }
            return desk;
        };
    }

    private static Desk observatories(int count) {
        Desk desk = new Desk();
        for (int i = 0; i < count; i++) {
            desk.observatory(i);
        }
        return desk;
    }

    private static Desk plates(int count) {
        Desk desk = observatories(1);
        for (int i = 0; i < count; i++) {
            desk.plate(0, i);
        }
        return desk;
    }

    private static Desk dots(int count) {
        Desk desk = plates(1);
        for (int i = 0; i < count; i++) {
            desk.dot(0, 50 * i, i);
        }
        return desk;
    }

    /** "Throws IllegalStateException if there are 6". */
    private static void observatory() {
        done("a first observatory", () -> observatories(0), desk -> desk.observatory(0), 0);
        done("a sixth observatory", () -> observatories(5), desk -> desk.observatory(0), 5);
        refused("a seventh observatory", () -> observatories(6), desk -> desk.observatory(0));
    }

    /** "Throws IllegalStateException if there are 30". */
    private static void plate() {
        done("a first plate", () -> plates(0), desk -> desk.plate(0, 0), 0);
        done("a thirtieth plate", () -> plates(29), desk -> desk.plate(0, 0), 29);
        refused("a plate too many", () -> plates(30), desk -> desk.plate(0, 0));
    }

    /** "Throws IllegalStateException if there are 60". */
    private static void dot() {
        done("a first dot", () -> dots(0), desk -> desk.dot(0, 0, 0), 0);
        done("a sixtieth dot", () -> dots(59), desk -> desk.dot(0, 0, 0), 59);
        refused("a dot too many", () -> dots(60), desk -> desk.dot(0, 0, 0));
    }

    /** "Throws IllegalStateException if it is not unlinked". */
    private static void bodyOfALinkedDot() {
        refused("a body's first dot", Desks::mixed, desk -> desk.body(0));
        refused("a body's last dot", Desks::mixed, desk -> desk.body(2));
        refused("a joined body's dot", Desks::mixed, desk -> desk.body(8));
        done("a dot that no body has", Desks::mixed, desk -> desk.body(12), 6);
        done("one that was unlinked", with(Desks::mixed, desk -> desk.unlink(0, 2)), desk -> desk.body(2), 6);
    }

    /** "or there are 20 bodies". */
    private static void bodyOnAFullDesk() {
        Supplier<Desk> nineteen = with(() -> dots(60), desk -> bodies(desk, 19));
        done("a twentieth body", nineteen, desk -> desk.body(59), 19);
        refused("a body too many", with(nineteen, desk -> desk.body(59)), desk -> desk.body(58));
        refused("one too many, of a linked dot", with(nineteen, desk -> desk.body(59)), desk -> desk.body(59));
    }

    private static int bodies(Desk desk, int count) {
        for (int i = 0; i < count; i++) {
            desk.body(i);
        }
        return count;
    }

    /** "this can be done if the dot is unlinked". */
    private static void linkOfALinkedDot() {
        Supplier<Desk> make = () -> Desks.eachABody(0, 0, 100, 1, 110, 2, 120);
        refused("its own dot", make, desk -> desk.link(0, 0));
        refused("another body's dot", make, desk -> desk.link(0, 1));
        Supplier<Desk> joined = with(make, desk -> desk.join(0, 1));
        refused("the dot of one that is joined to it", joined, desk -> desk.link(0, 1));
        Supplier<Desk> unlinked = () -> Desks.oneBody(0, 0, 100, 1, 110, 2, 120);
        done("a dot that was unlinked", with(unlinked, desk -> desk.unlink(0, 1)), desk -> desk.link(0, 1), 3);
    }

    /** "the body is free". */
    private static void linkToAJoinedBody() {
        Supplier<Desk> make = () -> {
            Desk desk = Desks.seen(0, 0, 100, 1, 110, 2, 120);
            desk.body(0);
            desk.body(1);
            return desk;
        };
        Supplier<Desk> joined = with(make, desk -> desk.join(0, 1));
        done("free", make, desk -> desk.link(1, 2), 2);
        refused("joined", joined, desk -> desk.link(1, 2));
        done("its host", joined, desk -> desk.link(0, 2), 3);
        done("free again", with(joined, desk -> desk.part(0)), desk -> desk.link(1, 2), 2);
    }

    /** "none of its looks, those of joined ones too, is on the plate of the dot". */
    private static void linkOnAPlateOfALook() {
        Supplier<Desk> make = with(() -> Desks.eachABody(9, 5, 100, 5, 100, 5, 100),
            desk -> desk.plate(0, 5), desk -> desk.dot(0, 100, 0), desk -> desk.dot(1, 100, 0),
            desk -> desk.dot(2, 100, 0), desk -> desk.dot(3, 100, 0), desk -> desk.join(1, 2), desk -> desk.join(0, 1));
        refused("on the plate of an own dot", make, desk -> desk.link(0, 3));
        refused("on the plate of a joined one's look", make, desk -> desk.link(0, 4));
        refused("on the plate of a look joined to a joined one", make, desk -> desk.link(0, 5));
        done("on another plate of the same night", make, desk -> desk.link(0, 6), 4);
        Supplier<Desk> parted = with(make, desk -> desk.part(0));
        done("on the plate of one that is freed", parted, desk -> desk.link(0, 4), 2);
        refused("on the host's plate still", parted, desk -> desk.link(0, 3));
        done("on the plate of a body to which none is joined", parted, desk -> desk.link(1, 3), 3);
    }

    /** "and some orbit fits all its looks and the dot". */
    private static void linkWithoutAnOrbit() {
        int[][] places = {{1000, 1040, 1041}, {1000, 960, 959}, {3580, 20, 21}, {20, 3580, 3579}, {3599, 39, 40},
            {0, 3560, 3559}};
        for (int[] three : places) {
            Supplier<Desk> near = with(() -> Desks.seen(0, 0, three[0], 1, three[1]), desk -> desk.body(0));
            Supplier<Desk> far = with(() -> Desks.seen(0, 0, three[0], 1, three[2]), desk -> desk.body(0));
            done("from " + three[0] + " to " + three[1], near, desk -> desk.link(0, 1), 2);
            refused("from " + three[0] + " to " + three[2], far, desk -> desk.link(0, 1));
        }
        Supplier<Desk> lost = with(() -> Desks.oneBody(0, 0, 390, 1, 430), desk -> desk.plate(0, 2),
            desk -> desk.dot(2, 470, 0));
        done("while it has orbits", lost, desk -> desk.link(0, 2), 3);
        refused("when it has none", with(lost, desk -> desk.shift(1, 9)), desk -> desk.link(0, 2));
        Supplier<Desk> joined = with(() -> Desks.eachABody(0, 0, 390, 1, 430), desk -> desk.plate(0, 2),
            desk -> desk.dot(2, 472, 0), desk -> desk.dot(2, 473, 0), desk -> desk.join(0, 1));
        done("what fits the joined one's looks too", joined, desk -> desk.link(0, 2), 3);
        refused("what fits its own dots alone", joined, desk -> desk.link(0, 3));
    }

    /** "Throws IllegalStateException if it is no own dot of that body". */
    private static void unlinkOfNoOwnDot() {
        refused("an unlinked dot", Desks::mixed, desk -> desk.unlink(0, 12));
        refused("another body's dot", Desks::mixed, desk -> desk.unlink(0, 3));
        Supplier<Desk> joined = with(() -> Desks.oneBody(0, 0, 100, 1, 110, 2, 120), desk -> desk.unlink(0, 2),
            desk -> desk.body(2), desk -> desk.join(0, 1));
        refused("the dot of a joined one", joined, desk -> desk.unlink(0, 2));
        refused("the dot of its host", joined, desk -> desk.unlink(1, 0));
        done("its own dot", joined, desk -> desk.unlink(0, 0), 1);
    }

    /** "or the only one". */
    private static void unlinkOfTheOnlyOne() {
        Supplier<Desk> three = () -> Desks.oneBody(0, 0, 100, 1, 110, 2, 120);
        done("one of three", three, desk -> desk.unlink(0, 2), 2);
        done("one of two", with(three, desk -> desk.unlink(0, 2)), desk -> desk.unlink(0, 0), 1);
        refused("the only one", with(three, desk -> desk.unlink(0, 2), desk -> desk.unlink(0, 0)),
            desk -> desk.unlink(0, 1));
        Supplier<Desk> joined = with(() -> Desks.eachABody(0, 0, 100, 1, 110), desk -> desk.join(0, 1));
        refused("the only one of its own, though it has two looks", joined, desk -> desk.unlink(0, 0));
        refused("the only one of a joined body", joined, desk -> desk.unlink(1, 1));
    }

    /** "To JOIN two bodies can be done if they are two". */
    private static void joinOfOne() {
        Supplier<Desk> make = () -> Desks.eachABody(0, 0, 100, 1, 110);
        refused("the first and itself", make, desk -> desk.join(0, 0));
        refused("the last and itself", make, desk -> desk.join(1, 1));
        done("the first and the last", make, desk -> desk.join(0, 1), 0);
        done("the last and the first", make, desk -> desk.join(1, 0), 0);
    }

    /** "both are free". */
    private static void joinOfOneThatIsNotFree() {
        Supplier<Desk> make = with(() -> Desks.eachABody(0, 0, 100, 1, 110, 2, 120, 3, 130), desk -> desk.join(0, 1));
        refused("the first is not free", make, desk -> desk.join(1, 2));
        refused("the second is not free", make, desk -> desk.join(2, 1));
        refused("joined to the other already", make, desk -> desk.join(0, 1));
        refused("the same, told the other way round", make, desk -> desk.join(1, 0));
        refused("neither is free", with(make, desk -> desk.join(2, 3)), desk -> desk.join(1, 3));
        done("the host is free", make, desk -> desk.join(2, 0), 0);
        done("free again", with(make, desk -> desk.part(0)), desk -> desk.join(2, 1), 1);
        Supplier<Desk> two = with(make, desk -> desk.join(0, 2));
        refused("the one joined first is not joined anew by that", two, desk -> desk.join(0, 1));
        refused("nor when told the other way round", two, desk -> desk.join(1, 0));
        refused("nor with another one", two, desk -> desk.join(1, 3));
        refused("nor with that which was joined later", two, desk -> desk.join(1, 2));
        done("the latest one is freed", with(two, desk -> ignored(() -> desk.join(1, 0))), desk -> desk.part(0), 2);
    }

    private static int ignored(Check.Call refused) {
        return Check.outcome(refused).length();
    }

    /** Body 0 has looks in the nights 0, 10 and 40, body 1 in 20, 30 and 60; they stand still at one place. */
    private static Desk twoForNumbers() {
        Desk desk = Desks.seen(0, 0, 100, 10, 100, 40, 100, 20, 100, 30, 100, 60, 100);
        desk.body(0);
        desk.body(3);
        for (int dot = 1; dot < 3; dot++) {
            desk.link(0, dot);
            desk.link(1, 3 + dot);
        }
        return desk;
    }

    /** "not both of them are numbered". */
    private static void joinOfTwoNumbers() {
        Supplier<Desk> make = RefusedStatesTest::twoForNumbers;
        Supplier<Desk> first = with(make, desk -> desk.number(0));
        Supplier<Desk> second = with(make, desk -> desk.number(1));
        Supplier<Desk> both = with(second, desk -> desk.number(0));
        done("neither has a number", make, desk -> desk.join(0, 1), 0);
        done("the first one has a number", first, desk -> desk.join(0, 1), 0);
        done("the second one has a number", second, desk -> desk.join(0, 1), 1);
        refused("both have numbers", both, desk -> desk.join(0, 1));
        refused("both have numbers, the other way round", both, desk -> desk.join(1, 0));
    }

    /** "no plate has looks of both". */
    private static void joinWithLooksOnAPlate() {
        Supplier<Desk> make = with(() -> Desks.eachABody(9, 5, 100, 5, 100), desk -> desk.dot(0, 100, 0),
            desk -> desk.dot(1, 100, 0), desk -> desk.plate(0, 5), desk -> desk.dot(2, 100, 0), desk -> desk.body(2),
            desk -> desk.body(3), desk -> desk.body(4));
        refused("own dots of both on a plate", make, desk -> desk.join(0, 2));
        done("on two plates of one night", make, desk -> desk.join(0, 1), 0);
        Supplier<Desk> joined = with(make, desk -> desk.join(0, 1));
        refused("a joined look and an own dot", joined, desk -> desk.join(0, 3));
        refused("the same, the other way round", joined, desk -> desk.join(3, 0));
        Supplier<Desk> deep = with(joined, desk -> desk.join(3, 4));
        refused("joined looks of both", with(deep, desk -> desk.part(0)), desk -> desk.join(3, 1));
        refused("an own dot, and a look of one joined to a joined one", with(make, desk -> desk.join(3, 4),
            desk -> desk.join(0, 3)), desk -> desk.join(1, 0));
        done("none on a plate of the other", with(make, desk -> desk.join(3, 4)), desk -> desk.join(0, 3), 0);
    }

    /** "and some orbit fits all looks of both". */
    private static void joinWithoutAnOrbit() {
        int[][] places = {{1000, 1040, 1041}, {1000, 960, 959}, {3580, 20, 21}, {20, 3580, 3579}};
        for (int[] three : places) {
            done("from " + three[0] + " to " + three[1], () -> Desks.eachABody(0, 0, three[0], 1, three[1]),
                desk -> desk.join(0, 1), 0);
            refused("from " + three[0] + " to " + three[2], () -> Desks.eachABody(0, 0, three[0], 1, three[2]),
                desk -> desk.join(0, 1));
        }
        Supplier<Desk> lost = with(() -> Desks.oneBody(0, 0, 390, 1, 430), desk -> desk.plate(0, 2),
            desk -> desk.dot(2, 470, 0), desk -> desk.body(2), desk -> desk.shift(1, 9));
        refused("one has no orbits of its own", lost, desk -> desk.join(0, 1));
        refused("the same, the other way round", lost, desk -> desk.join(1, 0));
        done("it has its orbits again", with(lost, desk -> desk.shift(1, 0)), desk -> desk.join(1, 0), 0);
        Supplier<Desk> joined = with(() -> Desks.eachABody(0, 0, 100, 1, 110, 2, 122, 2, 123), desk -> desk.join(0, 1));
        done("what fits the joined one's looks too", joined, desk -> desk.join(0, 2), 0);
        refused("what fits own dots alone", joined, desk -> desk.join(0, 3));
        refused("the same, the other way round", joined, desk -> desk.join(3, 0));
    }

    /** "Throws IllegalStateException if none is joined to it". */
    private static void part() {
        Supplier<Desk> make = () -> Desks.eachABody(0, 0, 100, 1, 110, 2, 120);
        Supplier<Desk> joined = with(make, desk -> desk.join(1, 2), desk -> desk.join(0, 1));
        refused("a body alone", make, desk -> desk.part(0));
        refused("one that is joined, to which none is joined", joined, desk -> desk.part(2));
        done("one to which one is joined", joined, desk -> desk.part(0), 1);
        done("one that is joined itself", joined, desk -> desk.part(1), 2);
        refused("the last one is freed", with(joined, desk -> desk.part(0)), desk -> desk.part(0));
    }

    /** "A body gets a NUMBER ... if it is free". */
    private static void numberOfOneThatIsNotFree() {
        Supplier<Desk> joined = with(RefusedStatesTest::twoForNumbers, desk -> desk.join(0, 1));
        refused("a joined one", joined, desk -> desk.number(1));
        done("its host", joined, desk -> desk.number(0), 1);
        done("a freed one", with(joined, desk -> desk.part(0)), desk -> desk.number(1), 1);
    }

    /** "has none". */
    private static void numberOfOneThatHasOne() {
        Supplier<Desk> first = with(RefusedStatesTest::twoForNumbers, desk -> desk.number(0));
        refused("a second number", first, desk -> desk.number(0));
        done("the other one", first, desk -> desk.number(1), 2);
    }

    /** "has looks in 3 nights or more, the greatest of which is 30 or more above the least". */
    private static void numberByNights() {
        // In the second of the two nights no orbit but that of b 40 and c 2 is as far on.
        numbers("two nights, 2 apart", () -> Desks.oneBody(0, 0, 100, 2, 182), false);
        numbers("two nights, 31 apart", () -> Desks.oneBody(0, 0, 100, 31, 2270), false);
        numbers("three looks in two nights", () -> Desks.oneBody(0, 0, 100, 31, 2270, 31, 2270), false);
        numbers("a third night", () -> Desks.oneBody(0, 0, 100, 31, 2270, 30, 2170), true);
        numbers("three nights, 29 apart", () -> Desks.oneBody(0, 0, 100, 1, 100, 29, 100), false);
        numbers("three nights, 30 apart", () -> Desks.oneBody(0, 0, 100, 1, 100, 30, 100), true);
        numbers("three nights, 31 apart", () -> Desks.oneBody(0, 0, 100, 1, 100, 31, 100), true);
        numbers("the last nights, 29 apart", () -> Desks.oneBody(0, 999, 100, 970, 100, 971, 100), false);
        numbers("the last nights, 30 apart", () -> Desks.oneBody(0, 999, 100, 969, 100, 971, 100), true);
        numbers("the farthest nights", () -> Desks.oneBody(0, 999, 100, 0, 100, 1, 100), true);
        numbers("the third night amid them, seen first", () -> Desks.oneBody(0, 50, 100, 30, 100, 61, 100), true);
        numbers("four nights", () -> Desks.oneBody(0, 0, 100, 10, 100, 20, 100, 30, 100), true);
    }

    private static void numbers(String what, Supplier<Desk> make, boolean isTaken) {
        done("one orbit, " + what, make, desk -> desk.orbits(0), 1);
        if (isTaken) {
            done("number, " + what, make, desk -> desk.number(0), 1);
        } else {
            refused("number, " + what, make, desk -> desk.number(0));
        }
    }

    /** "and has just one orbit". */
    private static void numberByOrbits() {
        // In the nights 0, 30 and 120 orbits of b 20 and c 0, and of b -9 and c 2, are at the same places.
        Supplier<Desk> two = () -> Desks.oneBody(0, 0, 100, 30, 700, 120, 2500);
        done("two orbits", two, desk -> desk.orbits(0), 2);
        refused("number, two orbits", two, desk -> desk.number(0));
        Supplier<Desk> one = () -> Desks.oneBody(0, 0, 100, 30, 700, 120, 2500, 1, 120);
        done("one orbit", one, desk -> desk.orbits(0), 1);
        done("number, one orbit", one, desk -> desk.number(0), 1);
        Supplier<Desk> none = with(() -> Desks.oneBody(0, 0, 390, 1, 400, 30, 690), desk -> desk.shift(0, 1));
        done("no orbits", none, desk -> desk.orbits(0), 0);
        refused("number, no orbits", none, desk -> desk.number(0));
        done("it has one again", with(none, desk -> desk.shift(1, 1)), desk -> desk.number(0), 1);
    }
}
