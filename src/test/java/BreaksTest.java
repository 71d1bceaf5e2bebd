import java.io.IOException;
import java.io.OutputStream;
import java.io.PrintStream;
import java.io.StringWriter;
import java.lang.reflect.Constructor;
import java.lang.reflect.InvocationTargetException;
import java.lang.reflect.Method;
import java.nio.charset.StandardCharsets;
import java.nio.file.Files;
import java.nio.file.Path;
import java.util.ArrayList;
import java.util.List;
import java.util.Map;
import java.util.regex.Matcher;
import java.util.regex.Pattern;
import java.util.stream.Collectors;

/** Makes each change that a remark names, one at a time, and looks that the test below the remark fails then. */
public final class BreaksTest {
    private static final String CLASS = "CopperStreet";
    private static final Check CHECK = new Check("BreaksTest");

    private record Trial(Remark remark, Remark.Break change) {
        String told() {
            return remark.name() + " with " + change.before() + " => " + change.after();
        }
    }

    private final MemoryCompiler compiler;
    private final String source;

    private BreaksTest(MemoryCompiler compiler, String source) {
        this.compiler = compiler;
        this.source = source;
    }

    public static void main(String[] args) throws IOException {
        MemoryCompiler compiler = MemoryCompiler.find();
        if (compiler == null) {
            System.out.println("BreaksTest: this java has no compiler in it, so that no break is tried");
            return;
        }
        String source = Files.readString(Path.of("src/main/java/" + CLASS + ".java"), StandardCharsets.UTF_8);
        BreaksTest breaks = new BreaksTest(compiler, source);
        List<Trial> trials = new ArrayList<>();
        for (Remark remark : Remark.all()) {
            remark.breaks.forEach(change -> trials.add(new Trial(remark, change)));
        }
        // What the tests print of a broken class is no news.
        PrintStream out = System.out;
        System.setOut(new PrintStream(OutputStream.nullOutputStream()));
        List<String> outcomes = trials.parallelStream().map(breaks::outcomeOf).collect(Collectors.toList());
        System.setOut(out);
        for (int i = 0; i < trials.size(); i++) {
            CHECK.due(trials.get(i).told(), "fails", outcomes.get(i));
        }
        CHECK.end();
    }

    private String outcomeOf(Trial trial) {
        String broken = brokenSource(trial.change());
        if (broken == null) {
            return "does not find just one such place in " + trial.change().place();
        }
        StringWriter messages = new StringWriter();
        Map<String, byte[]> classes = compiler.compile(CLASS, broken, messages);
        if (classes == null) {
            return "is not compiled: " + messages;
        }
        try {
            return isHeld(trial.remark(), new MemoryLoader(classes)) ? "holds" : "fails";
        } catch (ReflectiveOperationException failed) {
            return "is not run: " + failed;
        }
    }

    private String brokenSource(Remark.Break change) {
        int[] part = partOf(change.place());
        int at = part == null ? -1 : source.indexOf(change.before(), part[0]);
        if (at < 0 || at >= part[1]) {
            return null;
        }
        int next = source.indexOf(change.before(), at + 1);
        if (next >= 0 && next < part[1]) {
            return null;
        }
        return source.substring(0, at) + change.after() + source.substring(at + change.before().length());
    }

    /** Where a class, or a method of a class, begins and ends: at a closing brace as far in as its first line. */
    private int[] partOf(String place) {
        String[] names = place.split("\\.");
        int[] part = found("^( *)[a-z ]*(?:class|enum) " + names[0] + " \\{$", 0, source.length());
        if (part == null || names.length == 1) {
            return part;
        }
        return found("^( +)[\\w\\[\\] ]*\\b" + names[1] + "\\([^;\n]*\\) \\{$", part[0], part[1]);
    }

    private int[] found(String firstLine, int from, int to) {
        Matcher matcher = Pattern.compile(firstLine, Pattern.MULTILINE).matcher(source).region(from, to);
        if (!matcher.find()) {
            return null;
        }
        return new int[] {matcher.end(), source.indexOf("\n" + matcher.group(1) + "}", matcher.end())};
    }

    /** A broken class may throw as well as answer wrongly: the test holds only if it does neither. */
    private static boolean isHeld(Remark remark, ClassLoader loader) throws ReflectiveOperationException {
        Class<?> checks = loader.loadClass("Check");
        Constructor<?> makeCheck = checks.getDeclaredConstructor(String.class);
        Method test = loader.loadClass(remark.file).getDeclaredMethod(remark.test, checks);
        Method wrong = checks.getDeclaredMethod("wrong");
        // Classes of another loader are in another package, as the machine sees it.
        makeCheck.setAccessible(true);
        test.setAccessible(true);
        wrong.setAccessible(true);
        Object check = makeCheck.newInstance(remark.name());
        try {
            test.invoke(null, check);
        } catch (InvocationTargetException thrown) {
            return false;
        }
        return wrong.invoke(check).equals(0);
    }
}
