import java.io.IOException;
import java.nio.file.Files;
import java.nio.file.Path;
import java.util.ArrayList;
import java.util.HashSet;
import java.util.List;
import java.util.Set;
import java.util.regex.Pattern;

/**
 * Tests that quote the document: each says by which sentence it is due. A sentence that it misquotes is
 * reported, and at the end each sentence of the document that names an edge and has no test.
 */
class Sentences extends Checks {
    /** What stands before the first promise, as if it were a promise. */
    static final int DESCRIPTION = 0;

    private static final Pattern NAMES_AN_EDGE = Pattern.compile(
        "^(Throws|Returns|Computes)\\b|at most|empty|\\bnone\\b|perhaps|the same one twice|with a REFUSAL"
        + "|wraps around|changes nothing|is named first");

    private static final List<List<String>> DOCUMENT = sentencesByPromise();
    private static final Set<String> TESTED = new HashSet<>();

    static void says(int promise, String sentence, Runnable test) {
        check(label(promise, sentence), () -> {
            if (!DOCUMENT.get(promise).contains(sentence)) {
                report("the document does not say this");
            }
            TESTED.add(label(promise, sentence));
            test.run();
        });
    }

    /** Reports what has no test in these promises, and ends. */
    static void finish(String test, int first, int last) {
        for (int promise = first; promise <= last; promise++) {
            for (String sentence : DOCUMENT.get(promise)) {
                if (NAMES_AN_EDGE.matcher(sentence).find() && !TESTED.contains(label(promise, sentence))) {
                    report("no test stands for " + label(promise, sentence));
                }
            }
        }
        finish(test);
    }

    private static String label(int promise, String sentence) {
        return (promise == DESCRIPTION ? "description" : "promise " + promise) + ", \"" + sentence + "\"";
    }

    private static List<List<String>> sentencesByPromise() {
        String all = document();
        String promised = all.substring(0, all.indexOf("## Not promised"));
        List<List<String>> sentences = new ArrayList<>();
        for (String part : promised.split("## Promise \\d+: ")) {
            sentences.add(sentencesOf(part));
        }
        return sentences;
    }

    private static List<String> sentencesOf(String part) {
        List<String> sentences = new ArrayList<>();
        for (String line : part.split("\n")) {
            for (String sentence : line.strip().split("(?<=\\.) (?=[A-Z])")) {
                sentences.add(sentence);
            }
        }
        return sentences;
    }

    private static String document() {
        try {
            return Files.readString(Path.of("../shared/DOC.md"));
        } catch (IOException e) {
            throw new IllegalStateException("there is no document", e);
        }
    }
}
