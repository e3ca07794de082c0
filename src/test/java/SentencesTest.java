import java.io.IOException;
import java.nio.file.Files;
import java.nio.file.Path;
import java.util.Arrays;
import java.util.List;
import java.util.regex.Pattern;

/** Every sentence of the document stands in SENTENCES.md in its order, and has tests that are there. */
public final class SentencesTest {
    private static final Path DOCUMENT = Path.of("../shared/DOC.md");
    private static final Path SENTENCES = Path.of("src/test/SENTENCES.md");
    private static final Check CHECK = new Check();

    public static void main(String[] args) throws IOException {
        List<String> lines = Files.readAllLines(SENTENCES);
        eachHasTests(lines);
        allAreQuoted(lines);
        CHECK.end();
    }

    private static void eachHasTests(List<String> lines) throws IOException {
        String sentence = "";
        int tests = 1;
        for (String line : lines) {
            if (line.startsWith("> ")) {
                CHECK.due("tests are named of: " + sentence, true, tests > 0);
                sentence = line;
                tests = 0;
            } else if (line.startsWith("- ")) {
                tests += testsOf(line.substring(2));
            }
        }
        CHECK.due("tests are named of: " + sentence, true, tests > 0);
    }

    /** A method that is there stands in the text twice at least: where it's written and where it's called. */
    private static int testsOf(String line) throws IOException {
        String[] parts = line.split(": ");
        String[] names = parts[1].split(", ");
        String text = Files.readString(Path.of("src/test/java", parts[0] + ".java"));
        for (String name : names) {
            long times = Pattern.compile("\\b" + name + "\\(").matcher(text).results().count();
            CHECK.due(parts[0] + " has " + name + " and calls it", true, times >= 2);
        }
        return names.length;
    }

    /** Word by word, so that the line breaks don't matter. */
    private static void allAreQuoted(List<String> lines) throws IOException {
        if (!Files.isReadable(DOCUMENT)) {
            System.out.println("the document isn't beside the checkout, so the quotes are not set against it");
            return;
        }
        StringBuilder quoted = new StringBuilder();
        for (String line : lines) {
            quoted.append(line.startsWith("> ") ? line.substring(1) : "");
        }
        CHECK.same("the document's words", words(prose(Files.readAllLines(DOCUMENT))), words(quoted.toString()));
    }

    /** Without headings, fences, and the face (which FaceTest looks at). */
    private static String prose(List<String> lines) {
        StringBuilder text = new StringBuilder();
        boolean face = false;
        for (String line : lines) {
            if (line.startsWith("```")) {
                face = line.equals("```java");
            } else if (!face && !line.startsWith("#")) {
                text.append(line).append(' ');
            }
        }
        return text.toString();
    }

    private static List<String> words(String text) {
        return Arrays.asList(text.trim().split("\\s+"));
    }
}
