import java.io.IOException;
import java.nio.file.Files;
import java.nio.file.Path;
import java.util.ArrayList;
import java.util.HashSet;
import java.util.List;
import java.util.Set;
import java.util.regex.Pattern;

/**
 * Tests that quote the document: each says by which sentence it is due. A sentence that it misquotes is
 * reported, and at the end each sentence of the document that says what the class does and has no test.
 */
class Sentences extends Checks {
    /** What stands before the first promise, as if it were a promise. */
    static final int DESCRIPTION = 0;

    /** Titles and signatures (FaceTest compares these), and headings without words in brackets. */
    private static final Pattern HEADING = Pattern.compile("^(#|==|```|public |\\}|`)|^----[^(]*$|^$");

    /** Parameters that are just what their names say, and sentences that only lead to the others. */
    private static final Pattern NEEDS_NO_TEST = Pattern.compile(
        "^- `\\w+`: (a|an|the|another|whether|how)( \\w+){1,3}$"
        + "|^Walkers over texts of signs\\.$|^Whole numbers\\.$|^The constructor and the methods follow");
    private static final Pattern NAMES_AN_EDGE = Pattern.compile("at most|perhaps");

    private static final List<List<String>> DOCUMENT = sentencesByPromise();
    private static final Set<String> TESTED = new HashSet<>();

    static void says(int promise, String sentence, Runnable test) {
        check(label(promise, sentence), () -> {
            if (!DOCUMENT.get(promise).contains(sentence)) {
                report("the document does not say this");
            }
            TESTED.add(label(promise, sentence));
            test.run();
        });
    }

    /** Reports what has no test in these promises, and ends. */
    static void finish(String test, int first, int last) {
        for (int promise = first; promise <= last; promise++) {
            for (String sentence : DOCUMENT.get(promise)) {
                if (needsTest(sentence) && !TESTED.contains(label(promise, sentence))) {
                    report(label(promise, sentence), "no test stands for this");
                }
            }
        }
        finish(test);
    }

    private static boolean needsTest(String sentence) {
        return NAMES_AN_EDGE.matcher(sentence).find() || !NEEDS_NO_TEST.matcher(sentence).find();
    }

    private static String label(int promise, String sentence) {
        return (promise == DESCRIPTION ? "description" : "promise " + promise) + ", \"" + sentence + "\"";
    }

    private static List<List<String>> sentencesByPromise() {
        String all = document();
        String promised = all.substring(0, all.indexOf("## Not promised"));
        List<List<String>> sentences = new ArrayList<>();
        for (String part : promised.split("## Promise \\d+: ")) {
            sentences.add(sentencesOf(part));
        }
        return sentences;
    }

    private static List<String> sentencesOf(String part) {
        String behindTitle = part.substring(part.indexOf('\n'));
        List<String> sentences = new ArrayList<>();
        for (String line : behindTitle.split("\n")) {
            if (!HEADING.matcher(line.strip()).find()) {
                sentences.addAll(List.of(line.strip().split("(?<=\\.) (?=[A-Z])")));
            }
        }
        return sentences;
    }

    private static String document() {
        try {
            return Files.readString(Path.of("../shared/DOC.md"));
        } catch (IOException e) {
            throw new IllegalStateException("there is no document", e);
        }
    }
}
