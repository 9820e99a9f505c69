/**
 * "The first line of a method's throws clause that applies decides; a call that throws changes nothing": for every
 * method each argument right, just out of its range on both sides, and far out of it, all of them with all others.
 */
public final class ArgumentsTest {
    private static final int MIN = Integer.MIN_VALUE;
    private static final int MAX = Integer.MAX_VALUE;
    private static final Check check = new Check();

    private interface Call {
        int on(Desk desk, int[] arguments);
    }

    /** Values that an argument can have: a right one, then those that are refused, all for the same reason. */
    private record Range(boolean isIndex, int... values) {
    }

    private static Range index(int right, int... wrong) {
        return range(true, right, wrong);
    }

    private static Range range(int right, int... wrong) {
        return range(false, right, wrong);
    }

    private static Range range(boolean isIndex, int right, int... wrong) {
        int[] values = new int[wrong.length + 3];
        values[0] = right;
        System.arraycopy(wrong, 0, values, 1, wrong.length);
        values[wrong.length + 1] = MIN;
        values[wrong.length + 2] = MAX;
        return new Range(isIndex, values);
    }

    public static void main(String[] args) {
        platesAndDots(new Refusals(check, Desks::mixed), 2, 7, null);
        platesAndDots(new Refusals(check, Desks::full), 6, 30, IllegalStateException.class);
        others(new Refusals(check, Desks::mixed), 13, 6);
        others(new Refusals(check, Desks::full), 60, 20);
        check.end("ArgumentsTest");
    }

    /** On a full desk the right arguments are refused as well, and the wrong ones still for their own reason. */
    private static void platesAndDots(Refusals refusals, int observatories, int plates,
            Class<? extends RuntimeException> state) {
        Range night = range(999, -1, 1000);
        all(refusals, "observatory", (desk, is) -> desk.observatory(is[0]), state, range(9, -1, 10));
        all(refusals, "plate", (desk, is) -> desk.plate(is[0], is[1]), state,
            index(observatories - 1, -1, observatories), night);
        all(refusals, "dot", (desk, is) -> desk.dot(is[0], is[1], is[2]), state, index(plates - 1, -1, plates),
            range(3599, -1, 3600), range(99, -1, 100));
    }

    private static void others(Refusals refusals, int dots, int bodies) {
        Range dot = index(dots - 1, -1, dots);
        Range body = index(0, -1, bodies);
        Range night = range(999, -1, 1000);
        Range measure = range(90, -1, 91);
        all(refusals, "shift", (desk, is) -> desk.shift(is[0], is[1]), null, index(8, -1, 9), range(-9, -10, 10));
        all(refusals, "ofDot", (desk, is) -> desk.ofDot(is[0], is[1]), null, dot, range(3, -1, 4));
        all(refusals, "body", (desk, is) -> desk.body(is[0]), null, dot);
        all(refusals, "link", (desk, is) -> desk.link(is[0], is[1]), null, body, dot);
        all(refusals, "unlink", (desk, is) -> desk.unlink(is[0], is[1]), null, body, dot);
        all(refusals, "join", (desk, is) -> desk.join(is[0], is[1]), null, body, index(bodies - 1, -1, bodies));
        all(refusals, "part", (desk, is) -> desk.part(is[0]), null, body);
        all(refusals, "number", (desk, is) -> desk.number(is[0]), null, body);
        all(refusals, "ofBody", (desk, is) -> desk.ofBody(is[0], is[1]), null, body, range(6, -1, 7));
        all(refusals, "orbits", (desk, is) -> desk.orbits(is[0]), null, body);
        all(refusals, "orbitsAnew", (desk, is) -> desk.orbitsAnew(is[0]), null, body);
        all(refusals, "orbit", (desk, is) -> desk.orbit(is[0], is[1], is[2]), null, body, index(0, -1, 1),
            range(2, -1, 3));
        all(refusals, "spread", (desk, is) -> desk.spread(is[0], is[1]), null, body, night);
        all(refusals, "where", (desk, is) -> desk.where(is[0], is[1], is[2]), null, body, night, new Range(false, 0, -1, MIN));
        all(refusals, "candidates", (desk, is) -> desk.candidates(is[0]), null, body);
        all(refusals, "chance", (desk, is) -> desk.chance(is[0], is[1], is[2], false), null, body, night,
            range(1, 0, 61, -1));
        all(refusals, "chance below", (desk, is) -> desk.chance(is[0], is[1], is[2], true), null, body,
            range(940, -1, 941, 1000), range(60, 0, 61));
        all(refusals, "families", (desk, is) -> desk.families(is[0]), null, measure);
        all(refusals, "family", (desk, is) -> desk.family(is[0], is[1]), null, body, measure);
        all(refusals, "turn", (desk, is) -> desk.turn(is[0], false), null, body);
        all(refusals, "fault", (desk, is) -> desk.turn(is[0], true), null, body);
    }

    /** Asks with every value of each argument together with every value of all others, but for the right ones alone. */
    private static void all(Refusals refusals, String name, Call call, Class<? extends RuntimeException> ofRightOnes,
            Range... ranges) {
        int combinations = 1;
        for (Range range : ranges) {
            combinations *= range.values().length;
        }
        for (int combination = 0; combination < combinations; combination++) {
            int[] arguments = new int[ranges.length];
            StringBuilder told = new StringBuilder(name);
            Class<? extends RuntimeException> due = ofRightOnes;
            int rest = combination;
            for (int i = 0; i < ranges.length; i++) {
                int at = rest % ranges[i].values().length;
                rest /= ranges[i].values().length;
                arguments[i] = ranges[i].values()[at];
                told.append(' ').append(arguments[i]);
                if (at > 0 && due != IndexOutOfBoundsException.class) {
                    due = ranges[i].isIndex() ? IndexOutOfBoundsException.class : IllegalArgumentException.class;
                }
            }
            if (due != null) {
                refusals.thrown(told.toString(), due, desk -> call.on(desk, arguments));
            }
        }
    }
}
