import java.io.IOException;
import java.nio.charset.StandardCharsets;
import java.nio.file.Files;
import java.nio.file.Path;
import java.util.regex.Matcher;
import java.util.regex.Pattern;

/** Rules of ../shared/LANGUAGE.md that can be seen in the text of the class. */
public final class RulesTest {
    private static final String[] NEVER = {
        "\\bimport\\b", "\\bpackage\\b", "->", "::", "\\w+Exact\\b", "\\bsynchronized\\b", "\\bassert\\b",
        "\\bfinally\\b", "\\bcatch\\b", "\\bprotected\\b", "\\bSystem\\.(?!arraycopy)", "\\bThread\\b",
        "\\bstatic final (double|float)\\b", "\\bstatic \\{", "\"\\s*\\+", "\\+\\s*\"", "\\bRandom\\b", "[^\\x00-\\x7f]",
    };

    public static void main(String[] args) throws IOException {
        Path source = Path.of("src/main/java/TubeWatch.java");
        String text = new String(Files.readAllBytes(source), StandardCharsets.ISO_8859_1);
        for (String pattern : NEVER) {
            Matcher found = Pattern.compile(pattern).matcher(text);
            Check.due("places of " + pattern, found.find() ? 1 : 0, 0);
        }
        staticFieldsAreFinal(text);
        onlyConstructorsMakeObjects(text);
        Check.end();
    }

    private static void staticFieldsAreFinal(String text) {
        for (String line : text.split("\n")) {
            boolean isField = line.matches(".*\\bstatic\\b.*;") && !line.contains("(");
            Check.due(line, isField && !line.contains("static final"), false);
        }
    }

    /** Rows are made with the object; a call makes nothing but the exception that it throws. */
    private static void onlyConstructorsMakeObjects(String text) {
        for (String line : text.split("\n")) {
            if (line.matches(".*\\bnew\\b [A-Za-z]+[\\[(].*")) {
                boolean isRow = line.trim().startsWith("private final ");
                boolean isThrown = line.trim().startsWith("throw new ");
                Check.due(line.trim(), isRow || isThrown, true);
            }
        }
    }
}
