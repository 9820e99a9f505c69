import java.io.IOException;
import java.nio.file.Files;
import java.nio.file.Path;

/** The example of README.md answers as told there: each of its lines stands here, beside the answer that it names. */
public final class ReadmeTest {
    private static final String FENCE = "```";
    private static final int LINES = 22;
    private static final Check check = new Check();
    private static String[] rows;
    private static int next = 0;

    public static void main(String[] args) throws IOException {
        String readme = Files.readString(Path.of("README.md"));
        int begin = readme.indexOf(FENCE + "java\n") + FENCE.length() + "java\n".length();
        rows = readme.substring(begin, readme.indexOf(FENCE, begin)).replaceAll("\n+", "\n").split("\n");
        check.due("lines of the example", rows.length, LINES);
        example();
        check.due("lines looked at", next, LINES);
        check.end("ReadmeTest");
    }

    /** The next line of the example is that code, and tells that answer, if it tells one. */
    private static void row(String code, int answer) {
        String row = next < rows.length ? rows[next] : "";
        int comment = row.indexOf("//");
        check.due("line " + next, comment < 0 ? row : row.substring(0, comment).trim(), code);
        String told = comment < 0 ? "" : row.substring(comment + 2).trim();
        if (told.matches("(-?\\d+|PlanetoidDesk\\.NONE): .*")) {
            String number = told.substring(0, told.indexOf(':')).replace("PlanetoidDesk.NONE", "-1");
            check.due(code, answer, Integer.parseInt(number));
        }
        next++;
    }

    private static void example() {
        PlanetoidDesk desk = new PlanetoidDesk();
        row("PlanetoidDesk desk = new PlanetoidDesk();", 0);
        int observatory = desk.observatory(0);
        row("int observatory = desk.observatory(0);", observatory);
        int first = desk.dot(desk.plate(observatory, 0), 100, 50);
        row("int first = desk.dot(desk.plate(observatory, 0), 100, 50);", first);
        int second = desk.dot(desk.plate(observatory, 10), 150, 60);
        row("int second = desk.dot(desk.plate(observatory, 10), 150, 60);", second);
        int third = desk.dot(desk.plate(observatory, 30), 250, 50);
        row("int third = desk.dot(desk.plate(observatory, 30), 250, 50);", third);
        int body = desk.body(first);
        row("int body = desk.body(first);", body);
        row("desk.orbits(body);", desk.orbits(body));
        row("desk.link(body, second);", desk.link(body, second));
        row("desk.orbits(body);", desk.orbits(body));
        row("desk.spread(body, 30);", desk.spread(body, 30));
        row("desk.where(body, 30, 0);", desk.where(body, 30, 0));
        row("desk.candidates(body);", desk.candidates(body));
        row("desk.chance(body, 0, 60, false);", desk.chance(body, 0, 60, false));
        row("desk.chance(body, 0, 60, true);", desk.chance(body, 0, 60, true));
        int other = desk.body(third);
        row("int other = desk.body(third);", other);
        row("desk.join(other, body);", desk.join(other, body));
        row("desk.orbits(body);", desk.orbits(body));
        row("desk.orbit(body, 0, 1);", desk.orbit(body, 0, 1));
        row("desk.number(body);", desk.number(body));
        row("desk.family(body, 10);", desk.family(body, 10));
        row("desk.part(body);", desk.part(body));
        row("desk.ofBody(other, 2);", desk.ofBody(other, 2));
    }
}
