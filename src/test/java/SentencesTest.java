import java.nio.file.Path;

/** Every sentence of the document from its terms to its last promise, each with tests of its own. */
public final class SentencesTest {
    private SentencesTest() {
    }

    public static void main(String[] args) throws Exception {
        Reading r = new Reading(Path.of(args[0], "../shared/DOC.md"));
        new TextSentences(r).walks();
        new DaySentences(r).walks();
        new PromiseSentences(r).walks();
        if (!r.ends()) {
            System.exit(1);
        }
    }
}
