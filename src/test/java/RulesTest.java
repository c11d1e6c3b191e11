import java.io.IOException;
import java.nio.charset.StandardCharsets;
import java.nio.file.Files;
import java.nio.file.Path;
import java.util.List;
import java.util.regex.Matcher;
import java.util.regex.Pattern;

/** Rules of ../shared/LANGUAGE.md that can be seen in the text of the class. */
public final class RulesTest {
    private static final String[] NEVER = {
        "\\bimport\\b", "\\bpackage\\b", "->", "::", "\\w+Exact\\b", "\\bsynchronized\\b", "\\bassert\\b",
        "\\bfinally\\b", "\\bcatch\\b", "\\bprotected\\b", "\\bSystem\\.(?!arraycopy)", "\\bThread\\b",
        "\\bstatic final (double|float)\\b", "\\bstatic \\{", "\"\\s*\\+", "\\+\\s*\"", "\\bRandom\\b", "[^\\x00-\\x7f]",
    };

    /** The library of rule 4 and the exceptions of rule 6 that the class uses, and its own classes. */
    private static final List<String> NAMES = List.of("TubeWatch", "Fans", "Stream", "Blaze", "Air", "Doors", "Chart",
            "Crowd", "Integer", "Math", "IndexOutOfBoundsException", "IllegalArgumentException",
            "IllegalStateException");

    /** The document: "Ahead of the calls ... the interface says: ----", and the calls in its order. */
    private static final String[] HEADINGS = {
        "---- what there is", "build", "people", "wind", "fire", "---- what fails", "feed", "failFan", "failDoor",
        "failDetector", "---- the chart", "act", "command", "step", "---- what is asked", "segment", "flow", "fan",
        "alarm", "done", "person", "count", "gone", "balances",
    };

    public static void main(String[] args) throws IOException {
        Path source = Path.of("src/main/java/TubeWatch.java");
        String text = new String(Files.readAllBytes(source), StandardCharsets.ISO_8859_1);
        for (String pattern : NEVER) {
            Matcher found = Pattern.compile(pattern).matcher(text);
            Check.due("places of " + pattern, found.find() ? 1 : 0, 0);
        }
        staticFieldsAreFinal(text);
        onlyConstructorsMakeObjects(text);
        onlyListedNamesAreUsed(text);
        headingsStandAheadOfTheirCalls(text);
        Check.end();
    }

    private static void staticFieldsAreFinal(String text) {
        for (String line : text.split("\n")) {
            boolean isField = line.matches(".*\\bstatic\\b.*;") && !line.contains("(");
            Check.due(line, isField && !line.contains("static final"), false);
        }
    }

    /** Rows are made with the object; a call makes nothing but the exception that it throws. */
    private static void onlyConstructorsMakeObjects(String text) {
        for (String line : text.split("\n")) {
            if (line.matches(".*\\bnew\\b [A-Za-z]+[\\[(].*")) {
                boolean isRow = line.trim().startsWith("private final ");
                boolean isThrown = line.trim().startsWith("throw new ");
                Check.due(line.trim(), isRow || isThrown, true);
            }
        }
    }

    private static void onlyListedNamesAreUsed(String text) {
        String code = text.replaceAll("(?s)/\\*.*?\\*/", "").replaceAll("//.*", "").replaceAll("\"[^\"]*\"", "");
        Matcher found = Pattern.compile("\\b[A-Z]\\w*[a-z]\\w*\\b").matcher(code);
        while (found.find()) {
            Check.due("the name " + found.group(), NAMES.contains(found.group()), true);
        }
    }

    private static void headingsStandAheadOfTheirCalls(String text) {
        int reached = 0;
        for (String heading : HEADINGS) {
            String pattern = heading.startsWith("----") ? "\n    // " + heading + "\n" : " " + heading + "(";
            int at = heading.startsWith("----") ? text.indexOf(pattern, reached) : publicCall(text, pattern, reached);
            Check.due(heading + " stands in its place", at >= reached, true);
            reached = Math.max(reached, at);
        }
    }

    private static int publicCall(String text, String pattern, int from) {
        int at = text.indexOf("\n    public ", from);
        return at >= 0 && text.substring(at, text.indexOf('\n', at + 1)).contains(pattern) ? at + 1 : -1;
    }
}
