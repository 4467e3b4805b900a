import java.nio.file.Files;
import java.nio.file.Path;
import java.util.List;
import java.util.regex.Pattern;

/** The rules of LANGUAGE.md that can be seen from single lines; more of them are in LanguageTreeTest. */
public final class LanguageTest {
    private static final String THROWN = "(IllegalStateException|IllegalArgumentException|IndexOutOfBoundsException"
        + "|ArithmeticException|UnsupportedOperationException|NoSuchElementException|RuntimeException)";
    private static final String[][] RULED_OUT = {
        {"2", "^(?!\\s*(case|default)\\b).*->|::"},
        {"3", "\\b(Object|Long|Boolean|Character)\\b\\s+\\w+\\s*[=;]"},
        {"4", "\\bjava\\.(?!util\\.(ArrayList|List|Arrays|Iterator|NoSuchElementException|\\*);)"},
        {"5", "^\\s*static\\s*\\{"},
        {"6", "\\b(finally|synchronized|assert)\\b|\\btry\\s*\\("},
        {"6", "\\bcatch\\b(?!\\s*\\(\\s*(final\\s+)?" + THROWN + "\\b)"},
        {"6", "\\.getMessage\\(|\\bhashCode\\b|\\btoString\\(\\)\\s*\\{|extends \\w*Exception"},
        {"6", "\\bthrow\\b(?! new " + THROWN + "\\((\"[^\"]*\")?\\);)"},
        {"13", "\\b(Random|nanoTime|currentTimeMillis|Thread|File)\\b"}};

    public static void main(String[] args) throws Exception {
        List<String> lines = Files.readAllLines(Path.of("src/main/java/Tokenwalk.java"));
        int wrong = 0;
        for (int i = 0; i < lines.size(); i++) {
            for (String[] rule : RULED_OUT) {
                if (Pattern.compile(rule[1]).matcher(code(lines.get(i))).find()) {
                    wrong++;
                    System.out.println("line " + (i + 1) + " breaks rule " + rule[0] + ": " + lines.get(i));
                }
            }
        }
        System.out.println(wrong == 0 ? "LanguageTest: no line breaks a rule" : "LanguageTest: " + wrong + " lines");
        if (wrong != 0) {
            System.exit(1);
        }
    }

    private static String code(String line) {
        String bare = line.strip();
        return bare.startsWith("//") || bare.startsWith("/*") || bare.startsWith("*") ? "" : line;
    }
}
