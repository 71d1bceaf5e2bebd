import java.io.IOException;
import java.nio.file.DirectoryStream;
import java.nio.file.Files;
import java.nio.file.Path;
import java.util.ArrayList;
import java.util.Collections;
import java.util.List;
import java.util.regex.Matcher;
import java.util.regex.Pattern;

/** What stands above a test in a file ...EdgesTest.java: the sentences that it holds, and changes that break them. */
final class Remark {
    /** A sentence of the document that is of a promise, and stands in a section: the promise's own, or one for all. */
    record Sentence(int promise, String section, String words) {
    }

    /** A change of the class, in a class or a method of it, with which the test must fail. */
    record Break(String place, String before, String after) {
    }

    private static final Pattern TEST = Pattern.compile("    static void (\\w+)\\(Check check\\) \\{");
    private static final Pattern SENTENCE = Pattern.compile("Promise (\\d+)(?:, ([\\w ]+))?: \"(.*)\"");
    private static final Pattern BREAK = Pattern.compile("Broken in ([\\w.]+): (.*?) =>(?: (.*))?");

    final String file;
    final String test;
    final List<Sentence> sentences = new ArrayList<>();
    final List<Break> breaks = new ArrayList<>();
    /** Lines that look like a sentence or a break, and are neither. */
    final List<String> odd = new ArrayList<>();

    private Remark(String file, String test) {
        this.file = file;
        this.test = test;
    }

    String name() {
        return file + "." + test;
    }

    static List<Remark> all() throws IOException {
        List<Path> files = new ArrayList<>();
        try (DirectoryStream<Path> found = Files.newDirectoryStream(Path.of("src/test/java"), "*EdgesTest.java")) {
            found.forEach(files::add);
        }
        Collections.sort(files);
        List<Remark> remarks = new ArrayList<>();
        for (Path file : files) {
            addAll(remarks, file);
        }
        return remarks;
    }

    private static void addAll(List<Remark> remarks, Path file) throws IOException {
        String name = file.getFileName().toString().replace(".java", "");
        List<String> lines = new ArrayList<>();
        for (String line : Files.readAllLines(file)) {
            Matcher test = TEST.matcher(line);
            if (test.matches()) {
                Remark remark = new Remark(name, test.group(1));
                lines.forEach(remark::add);
                remarks.add(remark);
            }
            if (line.startsWith("    // ")) {
                lines.add(line.substring(7));
            } else {
                lines.clear();
            }
        }
    }

    private void add(String line) {
        Matcher sentence = SENTENCE.matcher(line);
        Matcher change = BREAK.matcher(line);
        if (sentence.matches()) {
            int promise = Integer.parseInt(sentence.group(1));
            String section = sentence.group(2) == null ? "Promise " + promise : sentence.group(2);
            sentences.add(new Sentence(promise, section, sentence.group(3)));
        } else if (change.matches()) {
            breaks.add(new Break(change.group(1), change.group(2), change.group(3) == null ? "" : change.group(3)));
        } else if (line.matches("(Promise|Broken)\\b.*")) {
            odd.add(line);
        }
    }
}
