import java.io.ByteArrayOutputStream;
import java.io.IOException;
import java.io.InputStream;
import java.io.OutputStream;
import java.io.PrintStream;
import java.io.StringWriter;
import java.lang.reflect.Constructor;
import java.lang.reflect.InvocationTargetException;
import java.lang.reflect.Method;
import java.net.URI;
import java.nio.charset.StandardCharsets;
import java.nio.file.Files;
import java.nio.file.Path;
import java.util.ArrayList;
import java.util.HashMap;
import java.util.List;
import java.util.Map;
import java.util.regex.Matcher;
import java.util.regex.Pattern;
import java.util.stream.Collectors;
import javax.tools.FileObject;
import javax.tools.ForwardingJavaFileManager;
import javax.tools.JavaCompiler;
import javax.tools.JavaFileManager;
import javax.tools.JavaFileObject;
import javax.tools.SimpleJavaFileObject;
import javax.tools.ToolProvider;

/** Makes each change that a remark names, one at a time, and looks that the test below the remark fails then. */
public final class BreaksTest {
    private static final String CLASS = "CopperStreet";
    private static final Check CHECK = new Check("BreaksTest");

    private record Trial(Remark remark, Remark.Break change) {
        String told() {
            return remark.name() + " with " + change.before() + " => " + change.after();
        }
    }

    private final JavaCompiler compiler;
    private final String source;

    private BreaksTest(JavaCompiler compiler, String source) {
        this.compiler = compiler;
        this.source = source;
    }

    public static void main(String[] args) throws IOException {
        JavaCompiler compiler = ToolProvider.getSystemJavaCompiler();
        if (compiler == null) {
            System.out.println("BreaksTest: this java has no compiler in it, so that no break is tried");
            return;
        }
        String source = Files.readString(Path.of("src/main/java/" + CLASS + ".java"), StandardCharsets.UTF_8);
        BreaksTest breaks = new BreaksTest(compiler, source);
        List<Trial> trials = new ArrayList<>();
        for (Remark remark : Remark.all()) {
            remark.breaks.forEach(change -> trials.add(new Trial(remark, change)));
        }
        // What the tests print of a broken class is no news.
        PrintStream out = System.out;
        System.setOut(new PrintStream(OutputStream.nullOutputStream()));
        List<String> outcomes = trials.parallelStream().map(breaks::outcomeOf).collect(Collectors.toList());
        System.setOut(out);
        for (int i = 0; i < trials.size(); i++) {
            CHECK.due(trials.get(i).told(), "fails", outcomes.get(i));
        }
        CHECK.end();
    }

    private String outcomeOf(Trial trial) {
        String broken = brokenSource(trial.change());
        if (broken == null) {
            return "does not find just one such place in " + trial.change().place();
        }
        StringWriter messages = new StringWriter();
        Map<String, byte[]> classes = compile(broken, messages);
        if (classes == null) {
            return "is not compiled: " + messages;
        }
        try {
            return isHeld(trial.remark(), new BrokenLoader(classes)) ? "holds" : "fails";
        } catch (ReflectiveOperationException failed) {
            return "is not run: " + failed;
        }
    }

    private String brokenSource(Remark.Break change) {
        int[] part = partOf(change.place());
        int at = part == null ? -1 : source.indexOf(change.before(), part[0]);
        if (at < 0 || at >= part[1]) {
            return null;
        }
        int next = source.indexOf(change.before(), at + 1);
        if (next >= 0 && next < part[1]) {
            return null;
        }
        return source.substring(0, at) + change.after() + source.substring(at + change.before().length());
    }

    /** Where a class, or a method of a class, begins and ends: at a closing brace as far in as its first line. */
    private int[] partOf(String place) {
        String[] names = place.split("\\.");
        int[] part = found("^( *)[a-z ]*(?:class|enum) " + names[0] + " \\{$", 0, source.length());
        if (part == null || names.length == 1) {
            return part;
        }
        return found("^( +)[\\w\\[\\] ]*\\b" + names[1] + "\\([^;\n]*\\) \\{$", part[0], part[1]);
    }

    private int[] found(String firstLine, int from, int to) {
        Matcher matcher = Pattern.compile(firstLine, Pattern.MULTILINE).matcher(source).region(from, to);
        if (!matcher.find()) {
            return null;
        }
        return new int[] {matcher.end(), source.indexOf("\n" + matcher.group(1) + "}", matcher.end())};
    }

    private Map<String, byte[]> compile(String broken, StringWriter messages) {
        Map<String, ByteArrayOutputStream> written = new HashMap<>();
        JavaFileManager files = new MemoryFiles(compiler.getStandardFileManager(null, null, null), written);
        List<JavaFileObject> sources = List.of(new SourceInMemory(broken));
        if (!compiler.getTask(messages, files, null, List.of("-proc:none", "-g:none"), null, sources).call()) {
            return null;
        }
        Map<String, byte[]> classes = new HashMap<>();
        written.forEach((name, bytes) -> classes.put(name, bytes.toByteArray()));
        return classes;
    }

    /** A broken class may throw as well as answer wrongly: the test holds only if it does neither. */
    private static boolean isHeld(Remark remark, ClassLoader loader) throws ReflectiveOperationException {
        Class<?> checks = loader.loadClass("Check");
        Constructor<?> makeCheck = checks.getDeclaredConstructor(String.class);
        Method test = loader.loadClass(remark.file).getDeclaredMethod(remark.test, checks);
        Method wrong = checks.getDeclaredMethod("wrong");
        // Classes of another loader are in another package, as the machine sees it.
        makeCheck.setAccessible(true);
        test.setAccessible(true);
        wrong.setAccessible(true);
        Object check = makeCheck.newInstance(remark.name());
        try {
            test.invoke(null, check);
        } catch (InvocationTargetException thrown) {
            return false;
        }
        return wrong.invoke(check).equals(0);
    }

    private static final class SourceInMemory extends SimpleJavaFileObject {
        private final String text;

        SourceInMemory(String text) {
            super(URI.create("memory:///" + CLASS + ".java"), Kind.SOURCE);
            this.text = text;
        }

        @Override
        public CharSequence getCharContent(boolean ignoreEncodingErrors) {
            return text;
        }
    }

    private static final class MemoryFiles extends ForwardingJavaFileManager<JavaFileManager> {
        private final Map<String, ByteArrayOutputStream> written;

        MemoryFiles(JavaFileManager files, Map<String, ByteArrayOutputStream> written) {
            super(files);
            this.written = written;
        }

        @Override
        public JavaFileObject getJavaFileForOutput(Location location, String name, JavaFileObject.Kind kind, FileObject sibling) {
            return new SimpleJavaFileObject(URI.create("memory:///" + name + ".class"), kind) {
                @Override
                public OutputStream openOutputStream() {
                    ByteArrayOutputStream bytes = new ByteArrayOutputStream();
                    written.put(name, bytes);
                    return bytes;
                }
            };
        }
    }

    /** Loads the broken class from memory, and the tests once more, so that they use it. */
    private static final class BrokenLoader extends ClassLoader {
        private final Map<String, byte[]> classes;

        BrokenLoader(Map<String, byte[]> classes) {
            super(BreaksTest.class.getClassLoader());
            this.classes = classes;
        }

        @Override
        protected Class<?> loadClass(String name, boolean resolve) throws ClassNotFoundException {
            Class<?> loaded = findLoadedClass(name);
            if (loaded != null) {
                return loaded;
            }
            byte[] bytes = classes.containsKey(name) ? classes.get(name) : bytesOfTest(name);
            return bytes == null ? super.loadClass(name, resolve) : defineClass(name, bytes, 0, bytes.length);
        }

        private byte[] bytesOfTest(String name) throws ClassNotFoundException {
            if (name.contains(".")) {
                return null;
            }
            try (InputStream in = getParent().getResourceAsStream(name + ".class")) {
                return in == null ? null : in.readAllBytes();
            } catch (IOException failed) {
                throw new ClassNotFoundException(name, failed);
            }
        }
    }
}
