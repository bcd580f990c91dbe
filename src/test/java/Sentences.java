import java.io.IOException;
import java.nio.file.Files;
import java.nio.file.Path;
import java.util.Map;
import java.util.TreeMap;
import java.util.TreeSet;

/**
 * Answers held against those due, each under the sentence of the document that makes it so. A
 * sentence is looked up in its section of ../shared/DOC.md (a promise by its number, a term by its
 * Roman one), so that no test stands on words that are not there.
 */
final class Sentences {
    private static final Path DOCUMENT = Path.of("../shared/DOC.md");

    private final Check check = new Check();
    private final Map<String, String> sections = new TreeMap<>();
    private final TreeSet<String> told = new TreeSet<>();
    private String label = "";

    Sentences() {
        String name = "";
        for (String line : lines()) {
            if (line.startsWith("## ")) {
                name = line.startsWith("## Promise ") ? line.substring(11, line.indexOf(':')) : line.substring(3);
            } else if (line.matches("[IV]+\\. .*")) {
                name = line.substring(0, line.indexOf('.'));
            }
            sections.merge(name, line.replace("`", "") + "\n", String::concat);
        }
    }

    private static java.util.List<String> lines() {
        try {
            return Files.readAllLines(DOCUMENT);
        } catch (IOException e) {
            throw new IllegalStateException("no document", e);
        }
    }

    /** What follows is due by these words of this section. */
    void says(Object section, String words) {
        label = section + ", '" + words + "'";
        told.add(section.toString());
        boolean stands = sections.getOrDefault(section.toString(), "").contains(words);
        check.due(label + ": stands in the document", stands ? 1 : 0, 1);
    }

    void due(String call, long got, long want) {
        check.due(label + ": " + call, got, want);
    }

    /** Of each text the fault and its place; fault 0: it stands. */
    void faulty(String text, int fault, int place) {
        MotherBench x = new MotherBench();
        due("the text fits the tape", Check.put(x, text), text.length());
        int lines = x.circuit();
        due("circuit() refuses '" + text + "'", lines == -4 ? 1 : 0, fault == 0 ? 0 : 1);
        due("fault(0) of '" + text + "'", x.fault(0), fault);
        due("fault(1) of '" + text + "'", x.fault(1), place);
    }

    /** To be called last: every one of these sections was told of, and every answer was as due. */
    void close(Object... due) {
        for (Object section : due) {
            check.due("sentences told of " + section, told.contains(section.toString()) ? 1 : 0, 1);
        }
        check.close();
    }

    static Object[] promises(int first, int last) {
        Object[] numbers = new Object[last - first + 1];
        for (int i = 0; i < numbers.length; i++) {
            numbers[i] = first + i;
        }
        return numbers;
    }
}
