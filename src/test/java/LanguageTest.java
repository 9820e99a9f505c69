import java.io.IOException;
import java.nio.file.Files;
import java.nio.file.Path;
import java.util.regex.Matcher;
import java.util.regex.Pattern;

/** Words of the Java language and library that ../shared/LANGUAGE.md leaves out do not stand in the class. */
public final class LanguageTest {
    private static final String[] LEFT_OUT = {
        "\\bimport\\b", "\\bpackage\\b", "\\btry\\b", "\\bcatch\\b", "\\bfinally\\b", "\\bsynchronized\\b",
        "\\bassert\\b", "->", "::", "\\bequals\\b", "\\bhashCode\\b", "\\btoString\\b", "\\bprotected\\b",
        "\\bvar\\b", "\\bextends Exception\\b", "\\bextends RuntimeException\\b", "Exact\\b", "\\bSystem\\b",
        "\\bThread\\b", "\\bRandom\\b", "Math\\.random", "MAX_VALUE", "MIN_VALUE", "\\bNaN\\b", "\\bstatic \\{",
        "\" *\\+", "\\+ *\"", "\\bnull\\b", "\\bdouble\\b", "\\bfloat\\b",
    };
    private static final Pattern LIBRARY = Pattern.compile("\\b(Math|Integer|Long)\\.(\\w+)");
    private static final String ALLOWED = " floorMod min max abs bitCount ";
    private static final Check check = new Check();

    public static void main(String[] args) throws IOException {
        String file = args.length > 0 ? args[0] : "src/main/java/PlanetoidDesk.java";
        String code = Files.readString(Path.of(file)).replaceAll("(?s)/\\*.*?\\*/", "").replaceAll("//[^\n]*", "");
        for (String word : LEFT_OUT) {
            Matcher matcher = Pattern.compile(word).matcher(code);
            check.due("use of " + word, matcher.find() ? matcher.group() : "", "");
        }
        Matcher library = LIBRARY.matcher(code);
        while (library.find()) {
            check.due("use of " + library.group(), ALLOWED.contains(" " + library.group(2) + " ") ? 1 : 0, 1);
        }
        check.due("signs beyond 127", code.chars().anyMatch(sign -> sign > 127) ? 1 : 0, 0);
        arraysStandBehindTests(code);
        check.end("LanguageTest");
    }

    /** Arrays are read, written and made in the class Row alone, where each index and length is tested. */
    private static void arraysStandBehindTests(String code) {
        int row = code.indexOf("class Row");
        int end = code.indexOf("private static final class", row);
        String others = code.substring(0, row) + code.substring(end);
        check.due("brackets outside Row", others.indexOf('['), -1);
    }
}
