import java.io.IOException;
import java.util.List;

/** Issue 6: a test for each sentence of the document, with its words. */
public final class SentencesTest {
    private SentencesTest() {
    }

    public static void main(String[] args) throws IOException {
        Sentences sentences = all();
        sentences.compareWithDocument();
        sentences.run();
        Check.end();
    }

    /** The names of all sentences, for .ci/mutants. */
    public static List<String> names() {
        return all().names();
    }

    /** Whether one sentence holds, for .ci/mutants. */
    public static boolean holds(String name) {
        return all().holds(name);
    }

    private static Sentences all() {
        Sentences sentences = new Sentences();
        HallTerms.addTo(sentences);
        GiveTerms.addTo(sentences);
        TakeTerms.addTo(sentences);
        HallPromises.addTo(sentences);
        BagPromises.addTo(sentences);
        TickPromises.addTo(sentences);
        return sentences;
    }
}
