import java.io.IOException;
import java.nio.file.Path;

/** Each sentence of the document, with a test of its own; the second argument of the program is the document's file. */
public final class SentencesTest {
    public static void main(String[] args) throws IOException {
        Due due = new Due("SentencesTest");
        Sentences document = new Sentences(due, Path.of(args.length > 1 ? args[1] : "../shared/DOC.md"));
        new TermsSentences(due, document).test();
        new RulesSentences(due, document).test();
        new PathsSentences(due, document).test();
        new MovesSentences(due, document).test();
        new TextSentences(due, document).test();
        new StatesSentences(due, document).test();
        new SitesSentences(due, document).test();
        new OutlookSentences(due, document).test();
        document.end();
    }
}
