import java.io.IOException;
import java.lang.reflect.Constructor;
import java.lang.reflect.Field;
import java.lang.reflect.Method;
import java.lang.reflect.Modifier;
import java.nio.charset.StandardCharsets;
import java.nio.file.Files;
import java.nio.file.Path;
import java.util.ArrayList;
import java.util.Arrays;
import java.util.List;
import java.util.TreeSet;
import java.util.regex.Matcher;
import java.util.regex.Pattern;

/** The public face of the document, and those rules of LANGUAGE.md that a test can see. */
public final class FaceTest {
    private static final String[] FACE = {
        "point(int, int)", "belt(int, int, int)", "as(int, int)", "turns(int, int)", "flight(int, int, int)",
        "fall(int, boolean)", "bag(int, int, boolean)", "take(int)", "give(int, int, boolean)", "where(int)",
        "place(int)", "detail(int)", "steps(int)", "step(int, int, boolean)", "tick(int)", "cell(int, int)",
        "holds(int)", "list(int, int)", "far(int, int)", "route(int, int)", "flown(int, int)", "count(int)",
        "keep()", "back()",
    };

    private static final String[] FORBIDDEN = {
        "throw", "throws", "try", "catch", "synchronized", "assert", "package", "volatile", "native", "->",
        "::", "System.out", "Object", "Random", "Thread",
    };

    /** What rule 4 lets the program use that is not of java.lang. */
    private static final List<String> IMPORTS = List.of("java.util.ArrayList", "java.util.List", "java.util.Arrays",
        "java.util.Iterator");

    private static final List<String> LIBRARY = List.of("System.arraycopy", "Arrays.copyOf", "Arrays.copyOfRange",
        "Arrays.fill", "List.of");

    private static final int MOST_LINES = 60;

    public static void main(String[] args) throws IOException {
        face();
        faceOfTheDocument();
        membersOfTheClass();
        classesInside();
        source();
        libraryCalls();
        lengthsOfMethods();
        Check.end();
    }

    private static String signature(Method method) {
        List<String> types = new ArrayList<>();
        for (Class<?> type : method.getParameterTypes()) {
            types.add(type.getName());
        }
        return method.getName() + "(" + String.join(", ", types) + ")";
    }

    private static void face() {
        TreeSet<String> found = new TreeSet<>();
        for (Method method : BagHall.class.getDeclaredMethods()) {
            if (Modifier.isPublic(method.getModifiers())) {
                found.add(signature(method));
                Check.holds(method + " answers an int", method.getReturnType() == int.class);
                Check.holds(method + " is of an object", !Modifier.isStatic(method.getModifiers()));
            }
        }
        TreeSet<String> due = new TreeSet<>(Arrays.asList(FACE));
        Check.holds("face " + found + " is " + due, found.equals(due));
        Check.holds("public and final", (BagHall.class.getModifiers() & (Modifier.PUBLIC | Modifier.FINAL))
            == (Modifier.PUBLIC | Modifier.FINAL));
        Constructor<?>[] made = BagHall.class.getDeclaredConstructors();
        Check.holds("one constructor, public, of nothing", made.length == 1
            && Modifier.isPublic(made[0].getModifiers()) && made[0].getParameterCount() == 0);
    }

    private static void faceOfTheDocument() throws IOException {
        if (!Document.isHere()) {
            System.out.println(Document.PATH + " is not here: the face is not compared with it");
            return;
        }
        List<String> calls = new ArrayList<>();
        for (String call : Document.read().calls()) {
            // The document names what a call is given, the class alone what it is of.
            calls.add(call.replaceAll("(int|boolean) \\w+", "$1"));
        }
        Check.holds("the document's face " + calls, calls.equals(Arrays.asList(FACE)));
    }

    private static void membersOfTheClass() {
        TreeSet<String> names = new TreeSet<>();
        for (String call : FACE) {
            names.add(call.substring(0, call.indexOf('(')));
        }
        for (Method method : BagHall.class.getDeclaredMethods()) {
            boolean isPublic = Modifier.isPublic(method.getModifiers());
            Check.holds(method + " is public or private", isPublic || Modifier.isPrivate(method.getModifiers()));
            Check.holds(method + " bears a name of its own", isPublic || !names.contains(method.getName()));
        }
        for (Field field : BagHall.class.getDeclaredFields()) {
            Check.holds(field + " is private", Modifier.isPrivate(field.getModifiers()));
            Check.holds(field + " is final, if static", !Modifier.isStatic(field.getModifiers())
                || Modifier.isFinal(field.getModifiers()));
        }
    }

    private static void classesInside() {
        Check.holds("at most twelve classes", BagHall.class.getDeclaredClasses().length < 12);
        for (Class<?> inside : BagHall.class.getDeclaredClasses()) {
            int modifiers = inside.getModifiers();
            Check.holds(inside + " is static", Modifier.isStatic(modifiers));
            Check.holds(inside + " is not public", !Modifier.isPublic(modifiers) && !Modifier.isProtected(modifiers));
            Check.holds(inside + " has at most twenty fields", inside.getDeclaredFields().length <= 20);
            for (Method method : inside.getDeclaredMethods()) {
                Check.holds(method + " has at most seven parameters", method.getParameterCount() <= 7);
            }
        }
    }

    private static String program() throws IOException {
        return Files.readString(Path.of("src/main/java/BagHall.java"), StandardCharsets.UTF_8);
    }

    private static String withoutComments(String text) {
        return text.replaceAll("(?s)/\\*.*?\\*/", " ").replaceAll("//[^\n]*", " ");
    }

    private static void source() throws IOException {
        String text = program();
        Check.holds("signs 1 to 127", text.chars().allMatch(sign -> sign > 0 && sign < 128));
        String code = withoutComments(text);
        for (String line : code.split("\n")) {
            if (line.trim().startsWith("import ")) {
                Check.holds(line + " is of rule 4", IMPORTS.contains(line.replace("import ", "").replace(";", "").trim()));
            }
        }
        for (String word : FORBIDDEN) {
            boolean isWord = Character.isLetter(word.charAt(0));
            String pattern = isWord ? "(?s).*\\b" + word.replace(".", "\\.") + "\\b.*" : "(?s).*" + word + ".*";
            Check.holds("without " + word, !code.matches(pattern));
        }
    }

    /** Rule 4: names of the library, each as a class and its function. */
    private static void libraryCalls() throws IOException {
        Pattern library = Pattern.compile("\\b(System|Math|Integer|Long|Arrays|List)\\.(\\w+)");
        Matcher used = library.matcher(withoutComments(program()));
        while (used.find()) {
            String call = used.group(1) + "." + used.group(2);
            Check.holds(call + " is no function that throws", !call.endsWith("Exact"));
            Check.holds(call + " is of rule 4", LIBRARY.contains(call) || used.group(1).matches("Math|Integer|Long"));
        }
    }

    /** Rule 11: a method ends with the first brace that stands as far in as its head. */
    private static void lengthsOfMethods() throws IOException {
        String[] lines = program().split("\n");
        int start = -1;
        for (int i = 0; i < lines.length; i++) {
            if (beginsMethod(lines[i])) {
                start = i;
            } else if (start >= 0 && lines[i].trim().equals("}") && indent(lines[i]) == indent(lines[start])) {
                Check.holds(lines[start].trim() + " is short", i - start < MOST_LINES);
                start = -1;
            }
        }
    }

    private static boolean beginsMethod(String line) {
        return line.matches(" {4}( {4})?[\\w ]+[\\w\\[\\]]+\\(.*\\) \\{") && !line.matches(" *(if|for|while|switch) .*");
    }

    private static int indent(String line) {
        return line.length() - line.stripLeading().length();
    }
}
