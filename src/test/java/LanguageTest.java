import java.io.IOException;
import java.nio.file.Files;
import java.nio.file.Path;
import java.util.regex.Pattern;

/** What of LANGUAGE.md can be read off the text of the class. */
public final class LanguageTest {
    private static final String[] NEVER = {
        "\\bthrow\\b", "\\btry\\b", "\\bcatch\\b", "\\bsynchronized\\b", "\\bassert\\b", "->", "::", "Exact\\b",
        "\\bpackage\\b", "\\bSystem\\.(?!arraycopy)", "\\bMath\\.(?!max|min)", "\\bArrays\\.(?!fill)", "@",
        "\\bObject\\b", "\\bfloat\\b", "\\bdouble\\b"
    };

    public static void main(String[] args) throws IOException {
        Check check = new Check();
        String text = Files.readString(Path.of("src/main/java/KingTable.java"));
        String code = text.replaceAll("(?s)/\\*.*?\\*/", "").replaceAll("//.*", "");
        for (String word : NEVER) {
            check.due(word + " stands in it", false, Pattern.compile(word).matcher(code).find());
        }
        long imports = code.lines().filter(line -> line.startsWith("import")).count();
        check.due("imports", 1, (int) imports);
        check.due("of Arrays", true, code.contains("import java.util.Arrays;"));
        long classes = Pattern.compile("\\bclass\\b").matcher(code).results().count();
        check.due("at most twelve classes", true, classes <= 12);
        check.due("no static field that can change", false,
            Pattern.compile("\\bstatic (?!final)[\\w\\[\\]]+ \\w+( =|;)").matcher(code).find());
        check.due("characters 0 to 127 alone", true, text.chars().allMatch(c -> c < 128));
        check.end();
    }
}
