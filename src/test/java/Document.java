import java.io.IOException;
import java.nio.charset.StandardCharsets;
import java.nio.file.Files;
import java.nio.file.Path;
import java.util.ArrayList;
import java.util.List;
import java.util.regex.Matcher;
import java.util.regex.Pattern;

/** ../shared/DOC.md, for the tests that compare words with it. */
final class Document {
    static final String PATH = "../shared/DOC.md";
    private static final Pattern CALL = Pattern.compile("public int (\\w+\\([^)]*\\));");
    private static final Pattern FINDING = Pattern.compile("\\b(BEYOND|NONE|FULL|KIND|SAME|TAKEN)[:.]");

    private final String text;

    private Document(String text) {
        this.text = text;
    }

    static boolean isHere() {
        return Files.isReadable(Path.of(PATH));
    }

    static Document read() throws IOException {
        return new Document(Files.readString(Path.of(PATH), StandardCharsets.UTF_8));
    }

    /** The text of the chapter whose title begins so, in one line. */
    String chapter(String title) {
        int start = text.indexOf("\n## " + title);
        Check.holds("the document has a chapter " + title, start >= 0);
        if (start < 0) {
            return "";
        }
        int textStart = text.indexOf('\n', start + 1);
        int end = text.indexOf("\n## ", textStart);
        String found = text.substring(textStart, end < 0 ? text.length() : end);
        return found.replace("```text", " ").replace("```", " ").replaceAll("\\s+", " ");
    }

    /** The chapter of a promise without the call, which stands between its first two backquotes. */
    String promise(int number) {
        return chapter("Promise " + number + ":").replaceFirst("^[^`]*`[^`]*`", "");
    }

    /** The calls of the public face in their order, such as "as(int point, int kind)". */
    List<String> calls() {
        return allOf(CALL, chapter("The public face"));
    }

    /** The findings of a call of the public face, in the order in which it tells them. */
    List<String> findings(int call) {
        // Promise 1 is the new object; the calls have the promises behind it, in their order.
        return allOf(FINDING, promise(call + 2));
    }

    private static List<String> allOf(Pattern pattern, String words) {
        List<String> found = new ArrayList<>();
        Matcher matcher = pattern.matcher(words);
        while (matcher.find()) {
            found.add(matcher.group(1));
        }
        return found;
    }
}
