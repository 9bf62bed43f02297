import java.io.ByteArrayOutputStream;
import java.io.IOException;
import java.io.OutputStream;
import java.io.PrintStream;
import java.net.URI;
import java.nio.charset.StandardCharsets;
import java.nio.file.Files;
import java.nio.file.Path;
import java.util.ArrayList;
import java.util.HashMap;
import java.util.List;
import java.util.Map;
import java.util.TreeSet;
import javax.tools.FileObject;
import javax.tools.ForwardingJavaFileManager;
import javax.tools.JavaCompiler;
import javax.tools.JavaFileManager;
import javax.tools.JavaFileObject;
import javax.tools.SimpleJavaFileObject;
import javax.tools.ToolProvider;

/**
 * Tests the tests: for each sentence of the document, mutants.txt breaks the program so that the
 * sentence is broken, and the test of that very sentence must see it. .ci/mutants runs it.
 */
public final class Mutants {
    private static final Path PROGRAM = Path.of("src/main/java/BagHall.java");
    private static final Path LIST = Path.of("src/test/mutants/mutants.txt");

    /** Breaks one sentence: the name of the sentence, the code that stands, what stands in its place. */
    private static final class Mutant {
        String sentence;
        String old = "";
        String broken = "";
        boolean told = false;
        String fault = null;
    }

    private final PrintStream out = System.out;
    private final Path testClasses;
    private final String program;

    private Mutants(Path testClasses) throws IOException {
        this.testClasses = testClasses;
        this.program = plain(Files.readString(PROGRAM, StandardCharsets.UTF_8).replaceAll("(?s)/\\*.*?\\*/", " ")
            .replaceAll("//[^\n]*", " "));
    }

    public static void main(String[] args) throws Exception {
        boolean good = new Mutants(Path.of(args[0])).run();
        System.exit(good ? 0 : 1);
    }

    /** Mutants are found by their words, however the lines are broken. */
    private static String plain(String code) {
        return code.replaceAll("\\s+", " ").trim();
    }

    private boolean run() throws Exception {
        TreeSet<String> withoutMutant = new TreeSet<>(sentences());
        TreeSet<String> unseen = new TreeSet<>();
        List<Mutant> mutants = read(unseen);
        List<String> faults = new ArrayList<>();
        for (Mutant mutant : mutants) {
            if (!sentences().contains(mutant.sentence)) {
                faults.add("no such sentence: " + mutant.sentence);
            }
            withoutMutant.remove(mutant.sentence);
        }
        // What the tests say of a broken program is of no interest here.
        System.setOut(new PrintStream(OutputStream.nullOutputStream()));
        mutants.parallelStream().forEach(this::judge);
        System.setOut(out);
        for (Mutant mutant : mutants) {
            if (mutant.fault != null) {
                faults.add(mutant.sentence + "\n  - " + mutant.old + "\n  + " + mutant.broken + "\n  " + mutant.fault);
            }
        }
        withoutMutant.removeAll(unseen);
        for (String sentence : withoutMutant) {
            faults.add("no mutant breaks " + sentence);
        }
        faults.forEach(out::println);
        out.println(mutants.size() + " mutants, " + faults.size() + " faults");
        return faults.isEmpty();
    }

    @SuppressWarnings("unchecked")
    private List<String> sentences() throws ReflectiveOperationException {
        return (List<String>) testOn(compile(program)).getMethod("names").invoke(null);
    }

    /** A line "#" is a remark, "=" names a sentence, "-" and "+" break it, "?" says why none can. */
    private static List<Mutant> read(TreeSet<String> unseen) throws IOException {
        List<Mutant> mutants = new ArrayList<>();
        String sentence = "";
        Mutant last = null;
        for (String line : Files.readAllLines(LIST, StandardCharsets.UTF_8)) {
            String text = line.length() > 2 ? line.substring(2).trim() : "";
            if (line.startsWith("=")) {
                sentence = text;
                last = null;
            } else if (line.startsWith("?")) {
                unseen.add(sentence);
            } else if (line.startsWith("-")) {
                if (last == null || last.told) {
                    last = new Mutant();
                    last.sentence = sentence;
                    mutants.add(last);
                }
                last.old = plain(last.old + " " + text);
            } else if (line.startsWith("+") && last != null) {
                last.broken = plain(last.broken + " " + text);
                last.told = true;
            }
        }
        return mutants;
    }

    private void judge(Mutant mutant) {
        int at = program.indexOf(mutant.old);
        if (at < 0 || program.indexOf(mutant.old, at + 1) >= 0) {
            mutant.fault = at < 0 ? "is not in the program" : "is in the program more than once";
            return;
        }
        String broken = program.substring(0, at) + mutant.broken + program.substring(at + mutant.old.length());
        Map<String, ByteArrayOutputStream> classes = compile(broken);
        if (classes.isEmpty()) {
            mutant.fault = "does not compile";
            return;
        }
        try {
            Object holds = testOn(classes).getMethod("holds", String.class).invoke(null, mutant.sentence);
            mutant.fault = Boolean.TRUE.equals(holds) ? "is not seen by the test of that sentence" : null;
        } catch (ReflectiveOperationException failed) {
            mutant.fault = "cannot be run: " + failed;
        }
    }

    /** The class files by name; none if it does not compile. */
    private static Map<String, ByteArrayOutputStream> compile(String code) {
        Map<String, ByteArrayOutputStream> classes = new HashMap<>();
        JavaCompiler compiler = ToolProvider.getSystemJavaCompiler();
        JavaFileManager files = new ForwardingJavaFileManager<JavaFileManager>(
            compiler.getStandardFileManager(null, null, StandardCharsets.UTF_8)) {
            @Override
            public JavaFileObject getJavaFileForOutput(Location where, String name, JavaFileObject.Kind kind,
                    FileObject sibling) {
                return new SimpleJavaFileObject(URI.create("mem:///" + name.replace('$', '_') + ".class"), kind) {
                    @Override
                    public OutputStream openOutputStream() {
                        ByteArrayOutputStream bytes = new ByteArrayOutputStream();
                        classes.put(name, bytes);
                        return bytes;
                    }
                };
            }
        };
        JavaFileObject source = new SimpleJavaFileObject(URI.create("mem:///BagHall.java"), JavaFileObject.Kind.SOURCE) {
            @Override
            public CharSequence getCharContent(boolean ignored) {
                return code;
            }
        };
        boolean good = compiler.getTask(null, files, found -> { }, null, null, List.of(source)).call();
        if (!good) {
            classes.clear();
        }
        return classes;
    }

    /** The class of the tests, loaded anew with a program of its own. */
    private Class<?> testOn(Map<String, ByteArrayOutputStream> classes) throws ClassNotFoundException {
        ClassLoader loader = new ClassLoader(ClassLoader.getPlatformClassLoader()) {
            @Override
            protected Class<?> findClass(String name) throws ClassNotFoundException {
                try {
                    byte[] bytes = classes.containsKey(name) ? classes.get(name).toByteArray()
                        : Files.readAllBytes(testClasses.resolve(name + ".class"));
                    return defineClass(name, bytes, 0, bytes.length);
                } catch (IOException missing) {
                    throw new ClassNotFoundException(name, missing);
                }
            }
        };
        return loader.loadClass("SentencesTest");
    }
}
