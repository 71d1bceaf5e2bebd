import java.io.IOException;
import java.nio.file.Files;
import java.nio.file.Path;
import java.util.Arrays;
import java.util.LinkedHashMap;
import java.util.List;
import java.util.Map;
import java.util.Set;

/** Looks that remarks tell sentences as they stand in the document, and that no sentence of it is without a test. */
public final class RemarksTest {
    private static final Path DOCUMENT = Path.of("../shared/DOC.md");
    /** Sections that say nothing beside what others say of the promises. */
    private static final Set<String> LEFT_OUT = Set.of("# CopperStreet", "The public face", "Not promised");
    /** Signatures, names of parameters with what they stand for, and titles: no answer can be against these. */
    private static final String NAMES = "`[^`]*\\)`:|- `\\w+`:|(the|the one) (pot|order|sheet|character)|the other one"
        + "|[A-Z][a-z]+[.:]|The constants:|Its grammar is as follows, .*:";
    /** Sentences that leave something free, or sum up what others say. */
    private static final String SUMS = "A street of coppersmiths:|sheets by their gauge, .* and saving\\."
        + "|what later calls answer is free\\.|All numbers are whole, but where it is said;";
    private static final Check CHECK = new Check("RemarksTest");

    public static void main(String[] args) throws IOException {
        List<Remark> remarks = Remark.all();
        for (Remark remark : remarks) {
            CHECK.due(remark.name() + " tells a sentence", false, remark.sentences.isEmpty());
            CHECK.due(remark.name() + " tells how it is broken", false, remark.breaks.isEmpty());
            CHECK.due(remark.name() + " has lines that cannot be read", "[]", remark.odd.toString());
        }
        if (Files.exists(DOCUMENT)) {
            compare(remarks, sectionsOf(Files.readString(DOCUMENT)));
        } else {
            System.out.println("RemarksTest: there is no " + DOCUMENT + " to compare the remarks with");
        }
        CHECK.end();
    }

    /** The sections by their titles, with a line for each paragraph and each point. */
    private static Map<String, String> sectionsOf(String document) {
        Map<String, String> sections = new LinkedHashMap<>();
        for (String section : document.replaceAll("(?s)```.*?```", "").split("(?m)^## ")) {
            int end = section.indexOf('\n');
            String title = section.substring(0, end).replaceAll("^(Promise \\d+):.*", "$1");
            StringBuilder text = new StringBuilder();
            for (String part : section.substring(end).trim().split("\n\\s*\n|\n(?=- )")) {
                text.append(part.replaceAll("\\s+", " ")).append('\n');
            }
            sections.put(title, text.toString());
        }
        return sections;
    }

    private static void compare(List<Remark> remarks, Map<String, String> sections) {
        Map<String, boolean[]> held = new LinkedHashMap<>();
        sections.forEach((title, text) -> held.put(title, new boolean[text.length()]));
        for (Remark remark : remarks) {
            for (Remark.Sentence sentence : remark.sentences) {
                String text = sections.getOrDefault(sentence.section(), "");
                String told = remark.name() + ": " + sentence.section() + " says \"" + sentence.words() + "\"";
                CHECK.due(told, true, text.contains(sentence.words()));
                mark(held.get(sentence.section()), text, sentence.words());
            }
        }
        for (int promise = 1; promise <= 44; promise++) {
            CHECK.due("promise " + promise + " is in the document", true, sections.containsKey("Promise " + promise));
        }
        sections.keySet().removeAll(LEFT_OUT);
        sections.forEach((title, text) -> everyClauseIsHeld(title, text, held.get(title)));
    }

    private static void mark(boolean[] held, String text, String words) {
        for (int at = text.indexOf(words); at >= 0; at = text.indexOf(words, at + 1)) {
            Arrays.fill(held, at, at + words.length(), true);
        }
    }

    private static void everyClauseIsHeld(String title, String text, boolean[] held) {
        int at = 0;
        for (String clause : text.split("(?<=[.;:]) |\n")) {
            StringBuilder left = new StringBuilder();
            for (int i = 0; i < clause.length(); i++) {
                left.append(held[at + i] ? ' ' : clause.charAt(i));
            }
            String words = left.toString().replaceAll("[ .;:,]+|\\b(and|or)\\b", "");
            boolean isFree = clause.matches(NAMES) || clause.matches(SUMS);
            CHECK.due(title + ", without a test", "", isFree || words.isEmpty() ? "" : clause);
            at += clause.length() + 1;
        }
    }
}
