import java.io.IOException;
import java.util.ArrayList;
import java.util.Arrays;
import java.util.List;

/**
 * The tests of the document's sentences: each has the chapter, the words as they stand there, the
 * promise that they bear on, and what must hold.
 */
final class Sentences {
    private static final String TERMS = "Terms";
    private static final String WHAT_IT_IS = "What it is";

    private static final class Sentence {
        final int promise;
        final String chapter;
        final String words;
        final Runnable test;

        Sentence(int promise, String chapter, String words, Runnable test) {
            this.promise = promise;
            this.chapter = chapter;
            this.words = words;
            this.test = test;
        }

        String name() {
            String where = chapter.startsWith("Promise") ? "promise " + promise : chapter + ", promise " + promise;
            return where + " \"" + words + "\"";
        }

        void run() {
            try {
                test.run();
            } catch (RuntimeException thrown) {
                Check.holds("no call throws, but " + thrown, false);
            }
        }
    }

    private final List<Sentence> all = new ArrayList<>();
    private final List<String> untested = new ArrayList<>();

    /** Words of the chapter of a promise. */
    void promise(int promise, String words, Runnable test) {
        all.add(new Sentence(promise, "Promise " + promise, words, test));
    }

    /** Words of the Terms, and the promise that they bear on most. */
    void terms(int promise, String words, Runnable test) {
        all.add(new Sentence(promise, TERMS, words, test));
    }

    /** Words of the first chapter, and the promise that they bear on most. */
    void whatItIs(int promise, String words, Runnable test) {
        all.add(new Sentence(promise, WHAT_IT_IS, words, test));
    }

    /** Words of the Terms that promise nothing which a call could show. */
    void termsWithoutTest(String words) {
        untested.add(words);
    }

    List<String> names() {
        List<String> names = new ArrayList<>();
        for (Sentence sentence : all) {
            names.add(sentence.name());
        }
        return names;
    }

    void run() {
        for (String name : names()) {
            holds(name);
        }
    }

    /** Whether the tests of the sentence with that name find all as due. */
    boolean holds(String name) {
        int before = Check.wrong();
        for (Sentence sentence : all) {
            if (sentence.name().equals(name)) {
                Check.about(name + ": ");
                sentence.run();
                Check.about("");
            }
        }
        return Check.wrong() == before;
    }

    /** The words must stand in the document, and each word of Terms and promises in some sentence here. */
    void compareWithDocument() throws IOException {
        if (!Document.isHere()) {
            System.out.println(Document.PATH + " is not here: the words of the sentences are not compared with it");
            return;
        }
        Document document = Document.read();
        compareChapter(TERMS, document.chapter(TERMS), true);
        compareChapter(WHAT_IT_IS, document.chapter(WHAT_IT_IS), false);
        for (int promise = 1; promise <= 25; promise++) {
            compareChapter("Promise " + promise, document.promise(promise), true);
        }
    }

    private void compareChapter(String chapter, String text, boolean whole) {
        char[] left = text.toCharArray();
        for (Sentence sentence : all) {
            if (sentence.chapter.equals(chapter)) {
                strike(chapter, sentence.words, text, left);
            }
        }
        if (chapter.equals(TERMS)) {
            for (String words : untested) {
                strike(chapter, words, text, left);
            }
        }
        String rest = new String(left).replaceAll("[^A-Za-z]+", " ").trim();
        Check.holds(chapter + ": each sentence has a test, but for: " + rest, !whole || rest.isEmpty());
    }

    private static void strike(String chapter, String words, String text, char[] left) {
        int at = text.indexOf(words);
        Check.holds(chapter + " has \"" + words + "\", once", at >= 0 && text.indexOf(words, at + 1) < 0);
        if (at >= 0) {
            Arrays.fill(left, at, at + words.length(), ' ');
        }
    }
}
