import java.nio.charset.StandardCharsets;
import java.nio.file.Files;
import java.nio.file.Path;
import java.util.Arrays;

/** Sentence by sentence, the edges that the document names; and that no sentence of it was left out. */
public final class BoundaryTest {
    private static final int PROMISES = 33;

    public static void main(String[] args) throws Exception {
        TermsBoundaries.lookAtAll();
        DayBoundaries.lookAtAll();
        PromiseBoundaries.lookAtAll();
        RefusalBoundaries.lookAtAll();
        String document = Files.readString(Path.of("../shared/DOC.md"), StandardCharsets.UTF_8);
        lookAtQuotes(About.TERMS, terms(document));
        for (int promise = 1; promise <= PROMISES; promise++) {
            lookAtQuotes(promise, promise(document, promise));
        }
        About.endWithCount();
    }

    private static String terms(String document) {
        String use = between(document, "An object is used", "## The public face");
        String terms = between(document, "## Terms", "## Promise 1:").substring("## Terms".length());
        return inOneLine(use + " " + terms.replace("```text", " ").replace("```", " ").replace("==== II.", " "));
    }

    private static String promise(String document, int promise) {
        String end = promise == PROMISES ? "## Not promised" : "## Promise " + (promise + 1) + ":";
        String section = between(document, "## Promise " + promise + ":", end);
        int head = section.indexOf("\n");
        return inOneLine(section.substring(Math.max(0, head)).replaceFirst("`[^`]*`:", " "));
    }

    private static String between(String document, String begin, String end) {
        int from = document.indexOf(begin);
        int to = document.indexOf(end);
        if (from < 0 || to < from) {
            About.noteWrong("the document has nothing between " + begin + " and " + end);
            return begin;
        }
        return document.substring(from, to);
    }

    private static String inOneLine(String text) {
        return text.replaceAll("\\s+", " ").trim();
    }

    /** Each quote stands in the document, and each letter and digit of it in a quote. */
    private static void lookAtQuotes(int promise, String section) {
        boolean[] covered = new boolean[section.length()];
        for (String quote : About.quotesOf(promise)) {
            int at = section.indexOf(quote);
            if (at < 0) {
                About.noteWrong("section " + promise + " of the document does not say: " + quote);
            }
            while (at >= 0) {
                Arrays.fill(covered, at, at + quote.length(), true);
                at = section.indexOf(quote, at + 1);
            }
        }
        StringBuilder left = new StringBuilder();
        for (int i = 0; i < covered.length; i++) {
            left.append(covered[i] ? '\n' : section.charAt(i));
        }
        for (String part : left.toString().split("\n+")) {
            if (part.matches(".*[A-Za-z0-9].*")) {
                About.noteWrong("section " + promise + ", no test stands for: " + part.trim());
            }
        }
    }
}
