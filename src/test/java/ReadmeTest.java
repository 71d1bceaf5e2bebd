import java.io.IOException;
import java.io.StringWriter;
import java.lang.reflect.Method;
import java.lang.reflect.Modifier;
import java.nio.charset.StandardCharsets;
import java.nio.file.DirectoryStream;
import java.nio.file.Files;
import java.nio.file.Path;
import java.util.Map;
import java.util.regex.MatchResult;
import java.util.regex.Matcher;
import java.util.regex.Pattern;

/** Looks that README.md's examples answer as it says, and that it names every call and every test. */
public final class ReadmeTest {
    private static final String EXAMPLES = "ReadmeExamples";
    private static final Pattern BLOCK = Pattern.compile("```java\n(CopperStreet street.*?)```", Pattern.DOTALL);
    private static final Pattern CALL = Pattern.compile("(?m)^ *((?:street|line)\\.(?:(?! //).)*);\\s+// (\"[^\"]*\"|[-.\\w]+),.*$");
    private static final Check CHECK = new Check("ReadmeTest");

    public static void main(String[] args) throws IOException, ReflectiveOperationException {
        String text = Files.readString(Path.of("README.md"), StandardCharsets.UTF_8);
        theExamplesAnswerAsTold(text);
        everyCallIsNamed(text);
        everyTestIsNamed(text);
        CHECK.end();
    }

    private static void theExamplesAnswerAsTold(String text) throws ReflectiveOperationException {
        MemoryCompiler compiler = MemoryCompiler.find();
        if (compiler == null) {
            System.out.println("ReadmeTest: this java has no compiler in it, so that no example is tried");
            return;
        }
        StringWriter messages = new StringWriter();
        Map<String, byte[]> classes = compiler.compile(EXAMPLES, examplesOf(text), messages);
        CHECK.due("compiling the examples", "", messages.toString());
        if (classes != null) {
            Method run = new MemoryLoader(classes).loadClass(EXAMPLES).getMethod("run");
            int[] counts = (int[]) run.invoke(null);
            CHECK.due("answers are told", true, counts[0] > 0);
            CHECK.due("wrong answers", 0, counts[1]);
        }
    }

    /** A class in which each call, with its answer behind it, is a comparison. */
    private static String examplesOf(String text) {
        StringBuilder code = new StringBuilder("public class " + EXAMPLES + " {\n    public static int[] run() {\n");
        code.append("Check check = new Check(\"README.md\");\n");
        Matcher block = BLOCK.matcher(text);
        while (block.find()) {
            code.append("{\n").append(CALL.matcher(block.group(1)).replaceAll(ReadmeTest::comparison)).append("}\n");
        }
        return code.append("return new int[] {check.compared(), check.wrong()};\n    }\n}\n").toString();
    }

    private static String comparison(MatchResult call) {
        String answer = call.group(2).matches("[A-Z]+") ? "CopperStreet." + call.group(2) : call.group(2);
        String told = call.group(1).replace("\\", "\\\\").replace("\"", "\\\"");
        return Matcher.quoteReplacement("check.due(\"" + told + "\", " + answer + ", " + call.group(1) + ");");
    }

    private static void everyCallIsNamed(String text) {
        for (Method method : CopperStreet.class.getDeclaredMethods()) {
            if (Modifier.isPublic(method.getModifiers())) {
                CHECK.due(method.getName() + " is named", true, text.contains("`" + method.getName() + "("));
            }
        }
    }

    private static void everyTestIsNamed(String text) throws IOException {
        try (DirectoryStream<Path> files = Files.newDirectoryStream(Path.of("src/test/java"), "*Test.java")) {
            for (Path file : files) {
                String name = file.getFileName().toString().replace(".java", "");
                CHECK.due(name + " is named", true, text.contains("`" + name + "`"));
            }
        }
    }
}
