import java.io.IOException;
import java.lang.reflect.Method;
import java.nio.charset.StandardCharsets;
import java.nio.file.Files;
import java.nio.file.Path;
import java.util.ArrayList;
import java.util.HashMap;
import java.util.LinkedHashMap;
import java.util.List;
import java.util.Map;
import java.util.TreeSet;
import java.util.function.IntPredicate;
import java.util.regex.Matcher;
import java.util.regex.Pattern;
import java.util.stream.Stream;

/** What README.md says of the class and its tests must be so. */
public final class ReadmeTest {
    private static final Path README = Path.of("README.md");
    private static final Path TESTS = Path.of("src/test/java");
    private static final Pattern EXAMPLE_LINE =
        Pattern.compile("(?:int (\\w+) = )?hall\\.(\\w+)\\((.*)\\);\\s+// (-?\\d+): .+");
    private static final Pattern QUOTED = Pattern.compile("`([A-Z]+)`");
    private static final int STEPS_ASKED = 40;

    private final String text;

    private ReadmeTest(String text) {
        this.text = text;
    }

    public static void main(String[] args) throws IOException, ReflectiveOperationException {
        if (!Document.isHere()) {
            System.out.println(Document.PATH + " is not here: calls and findings are not compared with it");
        }
        ReadmeTest test = new ReadmeTest(Files.readString(README, StandardCharsets.UTF_8));
        test.example();
        test.findings();
        test.calls();
        test.rowsOfAHall();
        test.numbers();
        test.listOfTests();
        Check.end();
    }

    /** The rows of the table with that head, each as its columns. */
    private List<String[]> table(String head) {
        List<String[]> rows = new ArrayList<>();
        boolean inside = false;
        for (String line : text.split("\n")) {
            inside = inside ? line.startsWith("|") : line.equals(head);
            if (inside && !line.equals(head) && !line.startsWith("|---")) {
                String[] parts = line.split("\\|", -1);
                String[] columns = new String[parts.length - 2];
                for (int i = 0; i < columns.length; i++) {
                    columns[i] = parts[i + 1].trim();
                }
                rows.add(columns);
            }
        }
        Check.holds("README.md has the table " + head, !rows.isEmpty());
        return rows;
    }

    /** Calls what the example calls, and holds each answer against the one that stands behind it. */
    private void example() throws ReflectiveOperationException {
        int start = text.indexOf("```java\n") + "```java\n".length();
        String[] lines = text.substring(start, text.indexOf("```", start)).split("\n");
        Check.holds("the example makes a hall", lines[0].equals("BagHall hall = new BagHall();"));
        BagHall hall = new BagHall();
        Map<String, Integer> names = new HashMap<>();
        for (int i = 1; i < lines.length; i++) {
            Matcher line = EXAMPLE_LINE.matcher(lines[i]);
            boolean readable = line.matches();
            Check.holds("the example's line has a call and its answer: " + lines[i], readable);
            if (readable) {
                int got = callByName(hall, line.group(2), line.group(3), names);
                Check.due("the example's " + lines[i], got, Integer.parseInt(line.group(4)));
                if (line.group(1) != null) {
                    names.put(line.group(1), got);
                }
            }
        }
    }

    private static int callByName(BagHall hall, String call, String given, Map<String, Integer> names)
            throws ReflectiveOperationException {
        List<Object> values = new ArrayList<>();
        for (String word : given.isEmpty() ? new String[0] : given.split(", ")) {
            if (word.equals("true") || word.equals("false")) {
                values.add(Boolean.valueOf(word));
            } else {
                values.add(names.containsKey(word) ? names.get(word) : Integer.valueOf(word));
            }
        }
        for (Method method : BagHall.class.getMethods()) {
            if (method.getName().equals(call) && method.getDeclaringClass() == BagHall.class) {
                return (Integer) method.invoke(hall, values.toArray());
            }
        }
        throw new NoSuchMethodException(call);
    }

    private void findings() throws IOException {
        List<String> told = new ArrayList<>();
        for (String[] row : table("| finding | answer | it says |")) {
            told.add(row[0].replace("`", "") + " " + row[1]);
        }
        if (Document.isHere()) {
            String words = "FINDINGS are the answers below 0: " + String.join(", ", told) + ".";
            Check.holds("the document has: " + words, Document.read().chapter("Terms").contains(words));
        }
    }

    /** Each call of the document stands here once, in its order, with its findings in their order. */
    private void calls() throws IOException {
        List<String> calls = new ArrayList<>();
        List<List<String>> findings = new ArrayList<>();
        // The three tables of calls have one head, so they are read as one.
        for (String[] row : table("| call | what it does, and answers | findings |")) {
            calls.add(row[0].replace("`", ""));
            List<String> found = new ArrayList<>();
            Matcher quoted = QUOTED.matcher(row[2]);
            while (quoted.find()) {
                found.add(quoted.group(1));
            }
            findings.add(found);
        }
        Check.holds("the first is the constructor", calls.remove(0).equals("BagHall()") && findings.remove(0).isEmpty());
        if (!Document.isHere()) {
            return;
        }
        Document document = Document.read();
        Check.holds("the calls " + calls + " are " + document.calls(), calls.equals(document.calls()));
        for (int i = 0; i < calls.size() && i < 24; i++) {
            Check.holds(calls.get(i) + " answers the findings " + findings.get(i),
                findings.get(i).equals(document.findings(i)));
        }
    }

    /** So many of each can be made (or are kept), and not one more. */
    private void rowsOfAHall() {
        Map<String, Integer> most = new LinkedHashMap<>();
        most.put("points", made(x -> x.point(0, 0)));
        most.put("belts", made(x -> x.belt(0, 1, 1)));
        most.put("flights", made(x -> x.flight(1, 0, 0)));
        most.put("bags", made(x -> x.bag(0, 0, false)));
        most.put("steps kept of a bag", stepsKept());
        List<String[]> rows = table("| things | at most |");
        Check.due("rows of the table of things", rows.size(), most.size());
        for (String[] row : rows) {
            Check.due(row[0] + " at most, as README.md says", Integer.parseInt(row[1]), most.getOrDefault(row[0], -1));
        }
    }

    private interface Make {
        int one(BagHall x);
    }

    private static BagHall deskAndChute() {
        BagHall x = Halls.of(Check.DESK, 0, Check.CHUTE, 0);
        x.belt(0, 1, 1);
        x.flight(1, 0, 50);
        return x;
    }

    /** The first number that can't be made: the count of those that can, since they are from 0 on. */
    private static int made(Make make) {
        BagHall x = deskAndChute();
        int last = -1;
        int next = make.one(x);
        for (int i = 0; i < 100 && next >= 0; i++) {
            last = next;
            next = make.one(x);
        }
        Check.due("one more", next, Check.FULL);
        return last + 1;
    }

    /** A bag goes round by two merges, which makes a step every other tick, and more than are kept. */
    private static int stepsKept() {
        BagHall x = Halls.of(Check.DESK, 0, Check.MERGE, 0, Check.MERGE, 0, Check.CHUTE, 0);
        Halls.belts(x, 0, 1, 1, 1, 2, 1, 2, 1, 1);
        x.flight(3, 0, 0);
        x.bag(0, 0, false);
        x.tick(100);
        int kept = 0;
        for (int i = 0; i < STEPS_ASKED; i++) {
            kept += x.step(0, i, false) >= 0 ? 1 : 0;
        }
        Check.holds("all steps are counted", x.steps(0) > STEPS_ASKED);
        return kept;
    }

    /** The least and the most are taken, and those next to them are BEYOND. */
    private void numbers() {
        Map<String, IntPredicate> taken = new LinkedHashMap<>();
        taken.put("`kind` of a point", n -> isTaken(new BagHall().point(n, 1)));
        taken.put("`v` of a SCREEN (its TICKS)", n -> isTaken(new BagHall().point(Check.SCREEN, n)));
        taken.put("`v` of a STORE (its ROOM)", n -> isTaken(new BagHall().point(Check.STORE, n)));
        taken.put("`cells` of a belt", n -> isTaken(deskAndChute().belt(0, 1, n)));
        taken.put("`v` of `turns` (1 at first)", n -> isTaken(Halls.deskTo(Check.MERGE, 0).turns(0, n)));
        taken.put("`opening` of a flight (not above its `close`)", n -> isTaken(deskAndChute().flight(1, n, 5000)));
        taken.put("`close` of a flight", n -> isTaken(deskAndChute().flight(1, 0, n)));
        taken.put("`n` of `tick`", n -> isTaken(deskAndChute().tick(n)));
        taken.put("`what` of `flown`", n -> isTaken(deskAndChute().flown(0, n)));
        taken.put("`what` of `count`", n -> isTaken(deskAndChute().count(n)));
        List<String[]> rows = table("| number | least | most |");
        Check.due("rows of the table of numbers", rows.size(), taken.size());
        for (String[] row : rows) {
            int least = Integer.parseInt(row[1]);
            int most = Integer.parseInt(row[2]);
            IntPredicate isGood = taken.getOrDefault(row[0], n -> false);
            Check.holds(row[0] + " takes " + least + " and " + most, isGood.test(least) && isGood.test(most));
            Check.holds(row[0] + " takes no less and no more", !isGood.test(least - 1) && !isGood.test(most + 1));
        }
        Check.due("TURNS at first", Halls.deskTo(Check.MERGE, 0).turns(0, 5), 1);
        Check.due("an opening above the close", deskAndChute().flight(1, 8, 7), Check.BEYOND);
    }

    private static boolean isTaken(int answer) {
        Check.holds("a number is taken or BEYOND, not " + answer, answer >= Check.BEYOND);
        return answer >= 0;
    }

    /** Each test that .ci/run runs stands in the table, and nothing else does. */
    private void listOfTests() throws IOException {
        TreeSet<String> told = new TreeSet<>();
        for (String[] row : table("| test | what it holds the class to |")) {
            told.add(row[0].replace("`", "") + ".java");
        }
        TreeSet<String> found = new TreeSet<>();
        try (Stream<Path> files = Files.list(TESTS)) {
            files.map(file -> file.getFileName().toString()).filter(name -> name.endsWith("Test.java"))
                .forEach(found::add);
        }
        Check.holds("the tests " + told + " are " + found, told.equals(found));
    }
}
