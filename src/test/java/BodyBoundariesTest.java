/** What the document says under 'Bodies', and in the promises 7 to 13, at the boundaries and on both sides of them. */
public final class BodyBoundariesTest {
    private static final int NONE = PlanetoidDesk.NONE;
    private static final Check check = new Check();

    public static void main(String[] args) {
        leastBody();
        ownOfOneBodyOrNone();
        looksGrowByLinks();
        looksGoWithUnlinks();
        looksHoweverDeep();
        firstLookByTheLeastNight();
        firstLookByTheLowestDot();
        creditOfTheFirstLook();
        firstLookOfAJoinedBody();
        strongerByTheNumber();
        strongerByTheNight();
        strongerByTheDot();
        strongerByJoinedLooks();
        whatIsJoinedStays();
        partTheLatest();
        partOneJoinedAgain();
        partKeepsWhatIsJoined();
        numbersFromOneOn();
        numberWhateverComes();
        joinedByThemselves();
        linksStayWithoutOrbits();
        check.end("BodyBoundariesTest");
    }

    private static void isOfBody(Desk desk, int body, int... due) {
        for (int what = 0; what < 7; what++) {
            check.due("of body " + body + ", " + what, desk.ofBody(body, what), due[what]);
        }
    }

    /** "A body has OWN dots, one at least". */
    private static void leastBody() {
        Desk desk = Desks.seen(0, 0, 0, 999, 3599);
        check.due("the first body, of the last dot", desk.body(1), 0);
        check.due("the second body, of the first dot", desk.body(0), 1);
        isOfBody(desk, 0, 1, 1, NONE, 0, 1, NONE, 0);
        isOfBody(desk, 1, 1, 1, NONE, 0, 0, NONE, 0);
    }

    /** "A dot is an own dot of one body, or of none: then it is UNLINKED". */
    private static void ownOfOneBodyOrNone() {
        Desk desk = Desks.seen(0, 0, 100, 1, 110, 2, 120);
        check.due("of none at first", desk.ofDot(1, 3), NONE);
        desk.body(0);
        desk.body(2);
        check.due("of none still", desk.ofDot(1, 3), NONE);
        desk.link(1, 1);
        check.due("of the last body", desk.ofDot(1, 3), 1);
        desk.join(0, 1);
        check.due("of the joined one, not of its host", desk.ofDot(1, 3), 1);
        check.due("the host has one of its own", desk.ofBody(0, 1), 1);
        desk.unlink(1, 1);
        check.due("of none again", desk.ofDot(1, 3), NONE);
        desk.link(0, 1);
        check.due("of body 0", desk.ofDot(1, 3), 0);
    }

    /** "Returns how many looks the body has then". */
    private static void looksGrowByLinks() {
        Desk desk = Desks.seen(9, 0, 100, 1, 100, 2, 100, 3, 100, 4, 100);
        desk.body(0);
        check.due("from one to two", desk.link(0, 1), 2);
        check.due("from two to three", desk.link(0, 2), 3);
        desk.body(3);
        desk.join(0, 1);
        check.due("with one of a joined body, five", desk.link(0, 4), 5);
        check.due("own ones of these", desk.ofBody(0, 1), 4);
    }

    /** "Returns how many own dots it has left"; "perhaps one that is joined to another one, or has a number". */
    private static void looksGoWithUnlinks() {
        Desk desk = Desks.oneBody(0, 0, 100, 1, 100, 2, 100, 30, 100);
        desk.number(0);
        check.due("from a body with a number, to three", desk.unlink(0, 0), 3);
        check.due("to two", desk.unlink(0, 3), 2);
        check.due("to the least", desk.unlink(0, 1), 1);
        desk.body(0);
        desk.link(1, 1);
        desk.join(0, 1);
        check.due("three looks", desk.ofBody(0, 0), 3);
        check.due("from a joined body, to one", desk.unlink(1, 0), 1);
        check.due("its host has two looks", desk.ofBody(0, 0), 2);
        check.due("and one own dot", desk.ofBody(0, 1), 1);
    }

    /** "the looks of all that are joined to it, and so on, however deep; not those of the body to which it is joined". */
    private static void looksHoweverDeep() {
        Desk desk = Desks.eachABody(9, 0, 100, 1, 100, 2, 100, 3, 100, 4, 100);
        desk.join(3, 4);
        desk.join(2, 3);
        desk.join(0, 1);
        desk.join(0, 2);
        int[] looks = {5, 1, 3, 2, 1};
        for (int body = 0; body < 5; body++) {
            check.due("looks of " + body, desk.ofBody(body, 0), looks[body]);
        }
        desk.part(2);
        check.due("two looks less", desk.ofBody(0, 0), 3);
        check.due("two looks less amid them", desk.ofBody(2, 0), 1);
        check.due("the freed one's", desk.ofBody(3, 0), 2);
    }

    /** "The FIRST look of a body is that, of all its looks, of the least night". */
    private static void firstLookByTheLeastNight() {
        Desk desk = Desks.oneBody(9, 2, 100, 1, 100, 999, 100, 0, 100);
        check.due("night 0, the last dot", desk.ofBody(0, 4), 3);
        desk.unlink(0, 3);
        check.due("night 1 of 1, 2 and 999", desk.ofBody(0, 4), 1);
        desk.unlink(0, 1);
        check.due("night 2 of 2 and 999", desk.ofBody(0, 4), 0);
        desk.unlink(0, 0);
        check.due("night 999 alone", desk.ofBody(0, 4), 2);
        desk.link(0, 0);
        check.due("night 2 again", desk.ofBody(0, 4), 0);
    }

    /** "of several the dot with the lowest number". */
    private static void firstLookByTheLowestDot() {
        Desk desk = Desks.seen(9, 5, 100, 5, 100, 5, 100);
        desk.body(2);
        check.due("the only one", desk.ofBody(0, 4), 2);
        desk.link(0, 1);
        check.due("the lower of two, linked last", desk.ofBody(0, 4), 1);
        desk.link(0, 0);
        check.due("the lowest of three", desk.ofBody(0, 4), 0);
        desk.unlink(0, 0);
        check.due("the next one", desk.ofBody(0, 4), 1);
        Desk plates = new Desk();
        plates.observatory(9);
        plates.plate(0, 5);
        plates.plate(0, 5);
        plates.dot(1, 100, 0);
        plates.dot(0, 100, 0);
        plates.body(1);
        plates.link(0, 0);
        check.due("the lowest dot, not the lowest plate", plates.ofBody(0, 4), 0);
    }

    /** "the CREDIT of a body is the observatory of the plate of its first look". */
    private static void creditOfTheFirstLook() {
        Desk desk = new Desk();
        for (int i = 0; i < 6; i++) {
            desk.observatory(9);
        }
        int[] observatories = {5, 0, 3};
        int[] nights = {7, 7, 6};
        for (int plate = 0; plate < 3; plate++) {
            desk.plate(observatories[plate], nights[plate]);
            desk.dot(plate, 100, 0);
        }
        desk.body(1);
        check.due("the first observatory", desk.ofBody(0, 3), 0);
        desk.link(0, 0);
        check.due("the last one, by the lower dot of one night", desk.ofBody(0, 3), 5);
        desk.link(0, 2);
        check.due("by the lesser night", desk.ofBody(0, 3), 3);
        desk.unlink(0, 2);
        check.due("given back", desk.ofBody(0, 3), 5);
        desk.body(2);
        check.due("the join", desk.join(0, 1), 1);
        check.due("of the host", desk.ofBody(1, 3), 3);
        check.due("of the joined one, its own", desk.ofBody(0, 3), 5);
    }

    /** "both by its own looks, also if it is joined". */
    private static void firstLookOfAJoinedBody() {
        Desk desk = Desks.eachABody(9, 3, 100, 2, 100, 1, 100, 0, 100);
        for (int body = 0; body < 3; body++) {
            check.due("joined to the one of the night before", desk.join(body, body + 1), body + 1);
        }
        for (int body = 0; body < 4; body++) {
            check.due("first look of " + body, desk.ofBody(body, 4), body);
        }
        Desk numbered = Desks.oneBody(0, 10, 100, 11, 100, 40, 100, 9, 100, 8, 100);
        numbered.unlink(0, 3);
        numbered.unlink(0, 4);
        numbered.number(0);
        numbered.body(3);
        numbered.body(4);
        numbered.join(1, 2);
        check.due("the one with the number is the host", numbered.join(2, 0), 0);
        check.due("its first look is that of the deepest one", numbered.ofBody(0, 4), 4);
        check.due("of the one amid them", numbered.ofBody(2, 4), 4);
        check.due("of the deepest one", numbered.ofBody(1, 4), 3);
        numbered.part(0);
        check.due("its own again", numbered.ofBody(0, 4), 0);
    }

    /** Body 0 with the nights 100, 110 and 140, body 1 with one look in a night, all at one place. */
    private static Desk withOneOfNight(int night) {
        Desk desk = Desks.oneBody(0, 100, 100, 110, 100, 140, 100);
        desk.plate(0, night);
        desk.dot(3, 100, 0);
        desk.body(3);
        return desk;
    }

    /** "The STRONGER one is the one that is numbered, if one is". */
    private static void strongerByTheNumber() {
        for (int night : new int[] {0, 99, 100, 101, 999}) {
            for (int first = 0; first < 2; first++) {
                Desk plain = withOneOfNight(night);
                check.due("without numbers, night " + night, plain.join(first, 1 - first), night < 100 ? 1 : 0);
                Desk numbered = withOneOfNight(night);
                numbered.number(0);
                check.due("with a number, night " + night, numbered.join(first, 1 - first), 0);
                check.due("the other one is joined", numbered.ofBody(1, 2), 0);
            }
        }
    }

    private static void stronger(String what, Desk desk, int one, int other, int due) {
        check.due(what, desk.join(one, other), due);
        int weaker = due == one ? other : one;
        check.due("the host of the other, " + what, desk.ofBody(weaker, 2), due);
        check.due("the stronger is free, " + what, desk.ofBody(due, 2), NONE);
        desk.part(due);
        check.due("the other way round, " + what, desk.join(other, one), due);
        desk.part(due);
    }

    /** "otherwise that whose first look has the lesser night". */
    private static void strongerByTheNight() {
        stronger("0 and 1", Desks.eachABody(9, 0, 100, 1, 100), 0, 1, 0);
        stronger("1 and 0", Desks.eachABody(9, 1, 100, 0, 100), 0, 1, 1);
        stronger("998 and 999", Desks.eachABody(9, 998, 100, 999, 100), 0, 1, 0);
        stronger("999 and 998", Desks.eachABody(9, 999, 100, 998, 100), 0, 1, 1);
        stronger("999 and 0", Desks.eachABody(9, 999, 100, 0, 100), 0, 1, 1);
    }

    /** "of alike nights the dot with the lower number". */
    private static void strongerByTheDot() {
        stronger("dots 0 and 1", Desks.eachABody(9, 5, 100, 5, 100), 0, 1, 0);
        Desk desk = Desks.seen(9, 5, 100, 5, 100, 5, 100);
        desk.body(2);
        desk.body(0);
        desk.body(1);
        stronger("body 1 with dot 0, body 0 with dot 2", desk, 0, 1, 1);
        stronger("body 2 with dot 1, body 0 with dot 2", desk, 0, 2, 2);
        stronger("body 1 with dot 0, body 2 with dot 1", desk, 1, 2, 1);
    }

    /** Body 0 with an own look in night 50 and a joined one, dot 2, in night 40; body 2 with a look, dot 1, in a night. */
    private static Desk withAnEarlierJoinedOne(int night) {
        Desk desk = Desks.seen(9, 50, 100, night, 100, 40, 100, 30, 100);
        desk.body(0);
        desk.link(0, 3);
        desk.body(2);
        desk.join(0, 1);
        desk.unlink(0, 3);
        desk.body(1);
        return desk;
    }

    /** "of all its looks": those of joined ones too. */
    private static void strongerByJoinedLooks() {
        check.due("the first look is a joined one's", withAnEarlierJoinedOne(45).ofBody(0, 4), 2);
        stronger("40 and 41", withAnEarlierJoinedOne(41), 0, 2, 0);
        stronger("40 and 40, where the other's dot is lower", withAnEarlierJoinedOne(40), 0, 2, 2);
        stronger("40 and 39", withAnEarlierJoinedOne(39), 0, 2, 2);
        stronger("40 and 50", withAnEarlierJoinedOne(50), 0, 2, 0);
    }

    /** "The other one is joined to the stronger one; what is joined to either stays so". */
    private static void whatIsJoinedStays() {
        Desk desk = Desks.eachABody(9, 0, 100, 1, 100, 2, 100, 3, 100, 4, 100, 5, 100);
        desk.join(1, 4);
        desk.join(1, 5);
        desk.join(0, 2);
        desk.join(0, 3);
        check.due("two with two each", desk.join(1, 0), 0);
        int[] hosts = {NONE, 0, 0, 0, 1, 1};
        for (int body = 0; body < 6; body++) {
            check.due("host of " + body, desk.ofBody(body, 2), hosts[body]);
        }
        check.due("three by themselves", desk.ofBody(0, 6), 3);
        check.due("two by themselves", desk.ofBody(1, 6), 2);
        check.due("six looks", desk.ofBody(0, 0), 6);
        check.due("three looks", desk.ofBody(1, 0), 3);
    }

    /** "To PART a body is to free that one which was joined to it latest, of all that are joined to it by themselves". */
    private static void partTheLatest() {
        int[][] orders = {{1, 2, 3}, {3, 2, 1}, {2, 3, 1}, {3, 1, 2}};
        for (int[] order : orders) {
            Desk desk = Desks.eachABody(9, 0, 100, 1, 100, 2, 100, 3, 100);
            for (int body : order) {
                desk.join(0, body);
            }
            for (int i = 2; i >= 0; i--) {
                check.due("part", desk.part(0), order[i]);
                check.due("it is free", desk.ofBody(order[i], 2), NONE);
                check.due("those left", desk.ofBody(0, 6), i);
                check.due("their looks", desk.ofBody(0, 0), 1 + i);
            }
        }
        Desk deep = Desks.eachABody(9, 0, 100, 1, 100, 2, 100, 3, 100);
        deep.join(0, 1);
        deep.join(2, 3);
        deep.join(0, 2);
        check.due("of those joined by themselves, the latest", deep.part(0), 2);
        Desk later = Desks.eachABody(9, 0, 100, 1, 100, 2, 100, 3, 100);
        later.join(0, 1);
        later.join(0, 2);
        later.part(0);
        later.join(2, 3);
        later.join(0, 2);
        later.part(2);
        check.due("one freed meanwhile from a joined one is not counted", later.part(0), 2);
        check.due("then the one before", later.part(0), 1);
    }

    /** "one that was freed and joined again counts as joined by then". */
    private static void partOneJoinedAgain() {
        Desk desk = Desks.eachABody(9, 0, 100, 1, 100, 2, 100, 3, 100);
        desk.join(0, 2);
        desk.join(0, 1);
        desk.join(0, 3);
        check.due("the latest", desk.part(0), 3);
        check.due("the one before", desk.part(0), 1);
        desk.join(0, 3);
        desk.join(0, 1);
        check.due("joined again last", desk.part(0), 1);
        check.due("joined again before it", desk.part(0), 3);
        check.due("joined all the while", desk.part(0), 2);
        Desk other = Desks.eachABody(9, 0, 100, 1, 100, 2, 100, 3, 100);
        other.join(1, 3);
        other.part(1);
        other.join(0, 2);
        other.join(0, 3);
        check.due("freed from another body, and joined later", other.part(0), 3);
        other.join(1, 3);
        other.join(0, 1);
        check.due("its joins to another one count not here", other.part(0), 1);
        check.due("the first join of this body", other.part(0), 2);
    }

    /** "that one keeps its own dots, and what is joined to it". */
    private static void partKeepsWhatIsJoined() {
        Desk desk = Desks.seen(9, 0, 100, 1, 100, 2, 100, 3, 100);
        desk.body(0);
        desk.body(1);
        desk.link(1, 2);
        desk.body(3);
        desk.join(1, 2);
        desk.join(0, 1);
        check.due("the one with a joined one", desk.part(0), 1);
        isOfBody(desk, 1, 3, 2, NONE, 0, 1, NONE, 1);
        isOfBody(desk, 2, 1, 1, 1, 0, 3, NONE, 0);
        isOfBody(desk, 0, 1, 1, NONE, 0, 0, NONE, 0);
        check.due("its dot", desk.ofDot(2, 3), 1);
    }

    /** "A body gets a NUMBER, from 1 on": in the order of the calls, and a refused call takes none. */
    private static void numbersFromOneOn() {
        Desk desk = new Desk();
        desk.observatory(0);
        for (int night : new int[] {0, 10, 40}) {
            desk.plate(0, night);
        }
        for (int body = 0; body < 3; body++) {
            for (int plate = 0; plate < 3; plate++) {
                desk.dot(plate, 100 + 1000 * body, 0);
            }
            desk.body(3 * body);
            desk.link(body, 3 * body + 1);
        }
        check.state("not yet", () -> desk.number(2));
        for (int body = 0; body < 3; body++) {
            check.due("no number yet", desk.ofBody(body, 5), NONE);
            desk.link(body, 3 * body + 2);
        }
        check.due("the first number", desk.number(2), 1);
        check.state("not again", () -> desk.number(2));
        check.due("the second number", desk.number(0), 2);
        check.due("the third number", desk.number(1), 3);
        int[] numbers = {2, 3, 1};
        for (int body = 0; body < 3; body++) {
            check.due("number of " + body, desk.ofBody(body, 5), numbers[body]);
        }
    }

    /** "its PROPER orbit from then on, whatever comes". */
    private static void numberWhateverComes() {
        Desk desk = Desks.oneBody(0, 0, 390, 1, 400, 31, 700);
        desk.number(0);
        desk.shift(0, 9);
        check.due("without orbits", desk.orbits(0), 0);
        check.due("it has its number", desk.ofBody(0, 5), 1);
        check.due("and its family", desk.family(0, 0), 0);
        desk.shift(0, 0);
        desk.unlink(0, 2);
        desk.unlink(0, 1);
        check.due("with one look", desk.orbits(0), 405);
        check.due("it has its number still", desk.ofBody(0, 5), 1);
        check.due("it is a family", desk.families(0), 1);
        check.state("and gets no other one", () -> desk.number(0));
        desk.body(1);
        check.due("it is the stronger one", desk.join(1, 0), 0);
        check.due("with its number", desk.ofBody(0, 5), 1);
        check.due("the joined one has none", desk.ofBody(1, 5), NONE);
    }

    /** "6 how many bodies are joined to it, by themselves". */
    private static void joinedByThemselves() {
        Desk desk = Desks.eachABody(9, 0, 100, 1, 100, 2, 100, 3, 100);
        check.due("none", desk.ofBody(0, 6), 0);
        desk.join(2, 3);
        desk.join(1, 2);
        check.due("none to one aside", desk.ofBody(0, 6), 0);
        desk.join(0, 1);
        int[] joined = {1, 1, 1, 0};
        for (int body = 0; body < 4; body++) {
            check.due("joined to " + body, desk.ofBody(body, 6), joined[body]);
        }
        desk.part(1);
        check.due("none any more", desk.ofBody(1, 6), 0);
        desk.join(0, 2);
        check.due("two", desk.ofBody(0, 6), 2);
    }

    /** "links and joins stay": "there may be none, when shifts were told anew". */
    private static void linksStayWithoutOrbits() {
        Desk desk = Desks.seen(0, 0, 390, 1, 430, 2, 470, 3, 510);
        desk.body(0);
        desk.link(0, 1);
        desk.body(2);
        desk.link(1, 3);
        desk.join(0, 1);
        check.due("orbits before", desk.orbits(0), 1);
        check.due("the shift before", desk.shift(0, -1), 0);
        check.due("no orbits then", desk.orbits(0), 0);
        // From night 2 to night 3 it goes on by b and 2c, which are 40 together: c is 0, 1 or 2.
        check.due("the joined one has its own", desk.orbits(1), 3);
        isOfBody(desk, 0, 4, 2, NONE, 0, 0, NONE, 1);
        isOfBody(desk, 1, 2, 2, 0, 0, 2, NONE, 0);
        check.due("a dot can be unlinked", desk.unlink(0, 1), 1);
        check.due("a body can be parted", desk.part(0), 1);
        check.state("but the dot cannot come back", () -> desk.link(0, 1));
        check.due("with the shift before it can", desk.shift(0, 0), -1);
        check.due("linked again", desk.link(0, 1), 2);
        check.due("joined again", desk.join(1, 0), 0);
    }
}
