import java.util.ArrayList;
import java.util.List;
import java.util.function.Supplier;

/**
 * Refused calls on desks made alike: each must throw the exception that is due, and leave a desk that tells and does
 * the same as one that was never asked.
 */
final class Refusals {
    private static final int QUESTIONS_OF_A_DESK = 300;

    private record Question(String told, Desk.Step step) {
    }

    private final Check check;
    private final Supplier<Desk> make;
    /** A desk is asked no more than 512 calls, so a large one is looked at in parts, each on a desk of its own. */
    private final List<List<Question>> parts = new ArrayList<>();
    private final List<List<String>> due = new ArrayList<>();

    Refusals(Check check, Supplier<Desk> make) {
        this.check = check;
        this.make = make;
        int dots = count(60, Desk::ofDot);
        int bodies = count(20, Desk::ofBody);
        List<Question> telling = telling(dots, bodies);
        for (int from = 0; from < telling.size(); from += QUESTIONS_OF_A_DESK) {
            parts.add(telling.subList(from, Math.min(telling.size(), from + QUESTIONS_OF_A_DESK)));
        }
        parts.add(doing(dots, bodies));
        for (List<Question> part : parts) {
            due.add(answers(make.get(), part));
        }
    }

    void index(String what, Desk.Step refused) {
        thrown(what, IndexOutOfBoundsException.class, refused);
    }

    void argument(String what, Desk.Step refused) {
        thrown(what, IllegalArgumentException.class, refused);
    }

    void state(String what, Desk.Step refused) {
        thrown(what, IllegalStateException.class, refused);
    }

    void thrown(String what, Class<? extends RuntimeException> exception, Desk.Step refused) {
        for (int i = 0; i < parts.size(); i++) {
            Desk desk = make.get();
            check.thrown(what, exception, () -> refused.on(desk));
            check.due(what + ", what it changed", firstChange(parts.get(i), answers(desk, parts.get(i)), due.get(i)),
                "nothing");
        }
    }

    private interface Teller {
        int tell(Desk desk, int number, int what);
    }

    private int count(int most, Teller teller) {
        Desk desk = make.get();
        int count = 0;
        while (count < most && !isRefused(desk, teller, count)) {
            count++;
        }
        return count;
    }

    private static boolean isRefused(Desk desk, Teller teller, int number) {
        return Check.outcome(() -> teller.tell(desk, number, 0)).startsWith("throws");
    }

    private static List<String> answers(Desk desk, List<Question> questions) {
        List<String> answers = new ArrayList<>();
        for (Question question : questions) {
            answers.add(Check.outcome(() -> question.step().on(desk)));
        }
        return answers;
    }

    private static String firstChange(List<Question> questions, List<String> answers, List<String> due) {
        for (int i = 0; i < due.size(); i++) {
            if (!answers.get(i).equals(due.get(i))) {
                return questions.get(i).told() + " answered " + answers.get(i) + " instead of " + due.get(i);
            }
        }
        return "nothing";
    }

    private static void ask(List<Question> questions, String told, Desk.Step step) {
        questions.add(new Question(told, step));
    }

    private static List<Question> telling(int dots, int bodies) {
        List<Question> asked = new ArrayList<>();
        for (int i = 0; i < dots; i++) {
            int dot = i;
            for (int k = 0; k < 4; k++) {
                int what = k;
                ask(asked, "ofDot " + dot + " " + what, desk -> desk.ofDot(dot, what));
            }
        }
        for (int body = 0; body < bodies; body++) {
            ofBody(asked, body);
        }
        ask(asked, "families", desk -> desk.families(20));
        return asked;
    }

    private static void ofBody(List<Question> asked, int body) {
        for (int k = 0; k < 7; k++) {
            int what = k;
            ask(asked, "ofBody " + body + " " + what, desk -> desk.ofBody(body, what));
        }
        for (int k = 0; k < 3; k++) {
            int what = k;
            ask(asked, "orbit of " + body + " " + what, desk -> desk.orbit(body, 0, what));
        }
        ask(asked, "orbits of " + body, desk -> desk.orbits(body));
        ask(asked, "orbitsAnew of " + body, desk -> desk.orbitsAnew(body));
        ask(asked, "spread of " + body, desk -> desk.spread(body, 1));
        ask(asked, "where of " + body, desk -> desk.where(body, 1, 0));
        ask(asked, "candidates of " + body, desk -> desk.candidates(body));
        ask(asked, "chance of " + body, desk -> desk.chance(body, 0, 3, false));
        ask(asked, "chance below of " + body, desk -> desk.chance(body, 0, 3, true));
        ask(asked, "family of " + body, desk -> desk.family(body, 20));
        ask(asked, "turn of " + body, desk -> desk.turn(body, false));
        ask(asked, "fault of " + body, desk -> desk.turn(body, true));
    }

    /** What is counted inside alone, as the numbers, or the order of joins, shows by what the next calls do. */
    private static List<Question> doing(int dots, int bodies) {
        List<Question> asked = new ArrayList<>();
        for (int i = 0; i < 9; i++) {
            int zone = i;
            ask(asked, "shift " + zone, desk -> desk.shift(zone, 1));
            ask(asked, "shift back " + zone, desk -> desk.shift(zone, 0));
        }
        ask(asked, "observatory", desk -> desk.observatory(1));
        ask(asked, "plate", desk -> desk.plate(0, 7));
        ask(asked, "dot", desk -> desk.dot(0, 7, 7));
        for (int i = 0; i < bodies; i++) {
            int body = i;
            ask(asked, "number " + body, desk -> desk.number(body));
            ask(asked, "part " + body, desk -> desk.part(body));
            ask(asked, "part again " + body, desk -> desk.part(body));
        }
        for (int i = 0; i < dots; i++) {
            int dot = i;
            ask(asked, "body of " + dot, desk -> desk.body(dot));
        }
        for (int i = 0; i < bodies; i++) {
            int body = i;
            ask(asked, "join to 0 " + body, desk -> desk.join(0, body));
            ask(asked, "its joined ones then " + body, desk -> desk.ofBody(body, 6));
        }
        return asked;
    }
}
