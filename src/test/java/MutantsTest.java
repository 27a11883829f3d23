import java.io.ByteArrayOutputStream;
import java.io.IOException;
import java.io.InputStream;
import java.io.OutputStream;
import java.net.URI;
import java.nio.file.Files;
import java.nio.file.Path;
import java.util.ArrayList;
import java.util.HashMap;
import java.util.HashSet;
import java.util.List;
import java.util.Map;
import java.util.Set;
import java.util.regex.Matcher;
import java.util.regex.Pattern;
import javax.tools.Diagnostic;
import javax.tools.DiagnosticCollector;
import javax.tools.FileObject;
import javax.tools.ForwardingJavaFileManager;
import javax.tools.JavaCompiler;
import javax.tools.JavaFileManager;
import javax.tools.JavaFileObject;
import javax.tools.SimpleJavaFileObject;
import javax.tools.ToolProvider;

/** Breaks each sentence of BoundariesTest in the class, as mutants.txt tells: the own test of the sentence must tell it. */
public final class MutantsTest extends Asking {
    private static final JavaCompiler COMPILER = ToolProvider.getSystemJavaCompiler();

    /** What stands in the class, and what comes in its place. */
    private record Change(String from, String to) {
    }

    private record Mutant(String sentence, List<Change> changes) {
    }

    private MutantsTest() {
    }

    private static List<Mutant> read(Path path) throws IOException {
        List<Mutant> mutants = new ArrayList<>();
        String sentence = "";
        String from = "";
        for (String line : Files.readAllLines(path)) {
            if (line.startsWith("= ")) {
                sentence = line.substring(2);
                mutants.add(new Mutant(sentence, new ArrayList<>()));
            } else if (line.equals("~")) {
                mutants.add(new Mutant(sentence, new ArrayList<>()));
            } else if (line.startsWith("- ")) {
                from = line.substring(2).trim();
            } else if (line.startsWith("+")) {
                mutants.get(mutants.size() - 1).changes.add(new Change(from, line.substring(1).trim()));
            }
        }
        return mutants;
    }

    private static String changed(String source, Mutant mutant) {
        String changed = source;
        for (Change change : mutant.changes) {
            StringBuilder words = new StringBuilder();
            for (String word : change.from.split(" +")) {
                words.append(words.length() == 0 ? "" : "\\s+").append(Pattern.quote(word));
            }
            Matcher place = Pattern.compile(words.toString()).matcher(changed);
            boolean found = place.find();
            int begin = found ? place.start() : 0;
            int end = found ? place.end() : 0;
            if (!found || place.find()) {
                fault("stands in the class not once: " + change.from);
                return null;
            }
            changed = changed.substring(0, begin) + change.to + changed.substring(end);
        }
        return changed;
    }

    /** A text that the compiler takes as a file. */
    private static final class Source extends SimpleJavaFileObject {
        private final String text;

        Source(String text) {
            super(URI.create("string:///HandedWorks.java"), JavaFileObject.Kind.SOURCE);
            this.text = text;
        }

        @Override
        public CharSequence getCharContent(boolean ignore) {
            return text;
        }
    }

    /** A row of bytes that the compiler takes as a file. */
    private static final class Compiled extends SimpleJavaFileObject {
        private final ByteArrayOutputStream bytes = new ByteArrayOutputStream();

        Compiled(String name) {
            super(URI.create("bytes:///" + name + ".class"), JavaFileObject.Kind.CLASS);
        }

        @Override
        public OutputStream openOutputStream() {
            return bytes;
        }
    }

    private static Map<String, Compiled> compile(String text) throws IOException {
        Map<String, Compiled> classes = new HashMap<>();
        DiagnosticCollector<JavaFileObject> said = new DiagnosticCollector<>();
        try (JavaFileManager files = new ForwardingJavaFileManager<>(COMPILER.getStandardFileManager(said, null, null)) {
            @Override
            public JavaFileObject getJavaFileForOutput(Location l, String name, JavaFileObject.Kind kind, FileObject f) {
                return classes.computeIfAbsent(name, Compiled::new);
            }
        }) {
            COMPILER.getTask(null, files, said, List.of("-proc:none", "-g:none"), null, List.of(new Source(text))).call();
        }
        for (Diagnostic<?> d : said.getDiagnostics()) {
            if (d.getKind() == Diagnostic.Kind.ERROR) {
                fault("a mutant doesn't compile: " + d);
            }
        }
        return classes;
    }

    /** The tests anew, with a broken class. */
    private static final class Loader extends ClassLoader {
        private final Map<String, Compiled> broken;

        Loader(Map<String, Compiled> broken) {
            super(ClassLoader.getPlatformClassLoader());
            this.broken = broken;
        }

        @Override
        protected Class<?> findClass(String name) throws ClassNotFoundException {
            try {
                byte[] bytes = broken.containsKey(name) ? broken.get(name).bytes.toByteArray() : read(name);
                return defineClass(name, bytes, 0, bytes.length);
            } catch (IOException e) {
                throw new ClassNotFoundException(name, e);
            }
        }

        private static byte[] read(String name) throws IOException {
            try (InputStream in = MutantsTest.class.getResourceAsStream("/" + name + ".class")) {
                if (in == null) {
                    throw new IOException("no class " + name);
                }
                return in.readAllBytes();
            }
        }
    }

    private static boolean isTold(Mutant mutant, String source) throws IOException, ReflectiveOperationException {
        Class<?> tests = new Loader(compile(source)).loadClass("BoundariesTest");
        return (Boolean) tests.getMethod("isBroken", String.class).invoke(null, mutant.sentence);
    }

    public static void main(String[] args) throws IOException, ReflectiveOperationException {
        if (COMPILER == null) {
            System.out.println("no class was broken: this java has no compiler");
            return;
        }
        String source = Files.readString(Path.of("src/main/java/HandedWorks.java"));
        List<Mutant> mutants = read(Path.of("src/test/mutants.txt"));
        Set<String> named = new HashSet<>();
        for (Mutant mutant : mutants) {
            named.add(mutant.sentence);
            String changed = changed(source, mutant);
            asked++;
            if (changed != null && !isTold(mutant, changed)) {
                fault("holds, though it is broken: " + mutant.sentence + ": " + mutant.changes);
            }
        }
        for (Edge edge : BoundariesTest.edges()) {
            long n = named.stream().filter(edge::isNamed).count();
            if (n != 1) {
                fault(n + " names in mutants.txt: " + edge.told());
            }
        }
        System.out.println(asked + " broken classes, " + wrong + " faults");
        if (wrong != 0) {
            System.exit(1);
        }
    }
}
