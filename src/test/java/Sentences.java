import java.io.IOException;
import java.nio.file.Files;
import java.nio.file.Path;
import java.util.ArrayList;
import java.util.LinkedHashMap;
import java.util.List;
import java.util.Map;

/**
 * The sentences of the document's "What it is", of its terms and of its promises. Each one is to be quoted once, by a
 * test of its own; a quotation that does not stand in the document is wrong too.
 */
final class Sentences {
    interface Test {
        void run();
    }

    private final Due due;
    private final Map<String, List<String>> untested = new LinkedHashMap<>();
    private final boolean isDocumentThere;
    private String heading = "";

    Sentences(Due due, Path document) throws IOException {
        this.due = due;
        isDocumentThere = Files.exists(document);
        if (isDocumentThere) {
            readLines(Files.readAllLines(document));
        } else {
            System.out.println(document + " is not there: whether each sentence has a test is not looked at");
        }
    }

    private void readLines(List<String> lines) {
        String section = "";
        for (String line : lines) {
            if (line.startsWith("#")) {
                section = shortHeading(line);
            } else if (!line.isBlank() && isTested(section)) {
                untested.computeIfAbsent(section, key -> new ArrayList<>()).addAll(sentencesOf(line));
            }
        }
    }

    private static String shortHeading(String line) {
        return line.replaceFirst("^#+ ", "").replaceFirst(":.*", "");
    }

    /** FaceTest has the face. */
    private static boolean isTested(String section) {
        return !List.of("", "LatticePaths", "The public face", "Not promised").contains(section);
    }

    /** The declaration that stands before a promise's first sentence is no part of it; FaceTest has it too. */
    private static List<String> sentencesOf(String line) {
        return List.of(line.replaceFirst("^`[^`]*\\)[^`]*`: ", "").split("(?<=\\.) (?=[A-Z])"));
    }

    void under(String heading) {
        this.heading = heading;
    }

    void says(String sentence, Test test) {
        due.under(heading + ", '" + sentence + "'");
        if (isDocumentThere) {
            due.holds("the document says so, once more", untested.getOrDefault(heading, List.of()).remove(sentence));
        }
        int before = due.checks();
        test.run();
        due.holds("it is tested", due.checks() > before);
    }

    void end() {
        due.under("the document");
        untested.forEach((section, rest) -> {
            for (String sentence : rest) {
                due.holds("a test quotes " + section + ", '" + sentence + "'", false);
            }
        });
        due.end();
    }
}
