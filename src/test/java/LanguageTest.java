import java.io.IOException;
import java.nio.charset.StandardCharsets;
import java.nio.file.Files;
import java.nio.file.Path;
import java.util.regex.Matcher;
import java.util.regex.Pattern;

/** The rules of LANGUAGE.md that can be seen in the text of the class; it runs in the project's folder. */
public final class LanguageTest {
    private static final String[] NEVER = {
        "package", "import", "throw", "try", "catch", "finally", "synchronized", "assert", "record", "protected", "native",
        "volatile", "strictfp", "equals", "hashCode", "ordinal", "name\\(\\)", "System", "Thread", "Random", "Object",
        "->", "::", "\\{\\{", "static \\{"};
    private static final int MOST_METHOD_LINES = 60;
    private static final Check CHECK = new Check("LanguageTest");

    public static void main(String[] args) throws IOException {
        String text = Files.readString(Path.of("src/main/java/CopperStreet.java"), StandardCharsets.UTF_8);
        signsAreOfSevenBits(text);
        String code = withoutComments(text);
        nothingForbidden(code);
        noTextsJoinedByPlus(text);
        methodsStayShort(code);
        CHECK.end();
    }

    private static void signsAreOfSevenBits(String text) {
        int odd = 0;
        for (int i = 0; i < text.length(); i++) {
            char sign = text.charAt(i);
            odd += sign == '\n' || sign >= 32 && sign < 127 ? 0 : 1;
        }
        CHECK.due("signs that are not plain", 0, odd);
    }

    private static String withoutComments(String text) {
        return text.replaceAll("(?s)/\\*.*?\\*/", "").replaceAll("//[^\n]*", "").replaceAll("\"[^\"\n]*\"", "\"\"");
    }

    private static void nothingForbidden(String code) {
        for (String word : NEVER) {
            boolean isWord = Character.isLetter(word.charAt(0));
            Matcher matcher = Pattern.compile(isWord ? "\\b" + word + (word.endsWith(")") ? "" : "\\b") : word).matcher(code);
            CHECK.due("use of " + word, false, matcher.find());
        }
    }

    private static void noTextsJoinedByPlus(String text) {
        CHECK.due("texts joined by +", false, Pattern.compile("\" *\\+|\\+ *\"").matcher(text).find());
    }

    private static void methodsStayShort(String code) {
        String[] lines = code.split("\n");
        Pattern start = Pattern.compile("^( {4}| {8})\\S[^=;]*\\) \\{$");
        int methods = 0;
        for (int i = 0; i < lines.length; i++) {
            Matcher matcher = start.matcher(lines[i]);
            if (matcher.find()) {
                methods++;
                int end = i;
                while (end + 1 < lines.length && !lines[end].equals(matcher.group(1) + "}")) {
                    end++;
                }
                CHECK.due("too long: " + lines[i].trim(), false, end - i + 1 > MOST_METHOD_LINES);
                CHECK.due("too many parameters: " + lines[i].trim(), false, lines[i].split(",").length > 7);
            }
        }
        CHECK.due("methods are found", true, methods > 100);
    }
}
