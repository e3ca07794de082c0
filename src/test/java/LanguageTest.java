import java.io.IOException;
import java.lang.reflect.Field;
import java.lang.reflect.Method;
import java.lang.reflect.Modifier;
import java.nio.file.Files;
import java.nio.file.Path;
import java.util.ArrayList;
import java.util.List;
import java.util.regex.Matcher;
import java.util.regex.Pattern;

/** What of LANGUAGE.md can be read off the text of the class, and off its classes. */
public final class LanguageTest {
    private static final String[] NEVER = {
        "\\bthrow\\b", "\\btry\\b", "\\bcatch\\b", "\\bsynchronized\\b", "\\bassert\\b", "->", "::", "Exact\\b",
        "\\bpackage\\b", "\\bSystem\\.(?!arraycopy)", "\\bMath\\.(?!max|min)", "\\bArrays\\.(?!fill)", "@",
        "\\bObject\\b", "\\bfloat\\b", "\\bdouble\\b", "\\bString\\b", "\"", "\\bstatic \\{"
    };
    private static final int MOST_CLASSES = 12;
    private static final int MOST_FIELDS = 20;
    private static final int MOST_PARAMETERS = 7;
    private static final int MOST_LINES = 60;
    private static final Check CHECK = new Check();

    public static void main(String[] args) throws IOException {
        String text = Files.readString(Path.of("src/main/java/KingTable.java"));
        String code = text.replaceAll("(?s)/\\*.*?\\*/", "").replaceAll("//.*", "");
        CHECK.due("characters 0 to 127 alone", true, text.chars().allMatch(c -> c < 128));
        wordsThatAreNot(code);
        imports(code);
        lengthsOfMethods(code);
        classes();
        CHECK.end();
    }

    private static void wordsThatAreNot(String code) {
        for (String word : NEVER) {
            CHECK.due(word + " stands in it", false, Pattern.compile(word).matcher(code).find());
        }
    }

    private static void imports(String code) {
        long imports = code.lines().filter(line -> line.startsWith("import")).count();
        CHECK.due("imports", 1, (int) imports);
        CHECK.due("of Arrays", true, code.contains("import java.util.Arrays;"));
    }

    /** A method or constructor begins with a line that has a ( and ends with {, and ends with a } as far in. */
    private static void lengthsOfMethods(String code) {
        Pattern head = Pattern.compile("( {4}| {8})[A-Za-z][^=;]*\\(.*\\) \\{");
        List<String> lines = code.lines().toList();
        int methods = 0;
        for (int i = 0; i < lines.size(); i++) {
            Matcher m = head.matcher(lines.get(i));
            if (!m.matches() || lines.get(i).trim().matches("(if|for|while|switch) .*")) {
                continue;
            }
            int end = i;
            while (end < lines.size() && !lines.get(end).equals(m.group(1) + "}")) {
                end++;
            }
            methods++;
            CHECK.due(lines.get(i).trim() + " is short", true, end - i < MOST_LINES);
        }
        CHECK.due("methods were found", true, methods > 60);
    }

    private static void classes() {
        List<Class<?>> all = new ArrayList<>(List.of(KingTable.class.getDeclaredClasses()));
        all.add(KingTable.class);
        CHECK.due("few classes", true, all.size() <= MOST_CLASSES);
        for (Class<?> c : all) {
            int fields = 0;
            for (Field f : c.getDeclaredFields()) {
                boolean isStatic = Modifier.isStatic(f.getModifiers());
                fields += isStatic ? 0 : 1;
                CHECK.due(f + " can't change if it's static", true, !isStatic || Modifier.isFinal(f.getModifiers()));
                CHECK.due(f + " is a constant if it's static", true, !isStatic || f.getType() == int.class);
            }
            CHECK.due(c + " has few fields", true, fields <= MOST_FIELDS);
            for (Method m : c.getDeclaredMethods()) {
                CHECK.due(m + " has few parameters", true, m.getParameterCount() <= MOST_PARAMETERS);
            }
            CHECK.due(c + " has classes of its own", 0, c == KingTable.class ? 0 : c.getDeclaredClasses().length);
        }
    }
}
