import java.io.IOException;
import java.nio.charset.StandardCharsets;
import java.nio.file.Files;
import java.nio.file.Path;
import java.util.LinkedHashMap;
import java.util.Map;
import java.util.function.Consumer;

/**
 * Tests that each stand for words of the document. The words are looked up there, and what no test stands for is told,
 * so that no sentence is forgotten.
 */
final class Sentences {
    private static final Path DOCUMENT = Path.of("../shared/DOC.md");

    private final Map<String, String> sections = new LinkedHashMap<>();
    private final Map<String, boolean[]> covered = new LinkedHashMap<>();
    private String section = "";
    private int tests;
    private int wrong;

    Sentences() throws IOException {
        String name = "";
        StringBuilder text = new StringBuilder();
        for (String line : Files.readString(DOCUMENT, StandardCharsets.UTF_8).split("\n")) {
            if (line.startsWith("# ") || line.startsWith("## ") || line.startsWith("======== ")) {
                close(name, text);
                name = line.replaceAll("^[#=]* ", "").strip();
            } else if (!line.startsWith("---- ")) {
                text.append(line).append('\n');
            }
        }
        close(name, text);
    }

    private void close(String name, StringBuilder text) {
        String flat = text.toString().replaceAll("\\s+", " ").strip();
        sections.put(name, flat);
        covered.put(name, new boolean[flat.length()]);
        text.setLength(0);
    }

    /** The words that follow stand in this section. */
    void in(String heading) {
        section = heading;
        if (!sections.containsKey(heading)) {
            fault("the document has no section " + heading);
        }
    }

    private void fault(String text) {
        wrong++;
        System.out.println("Sentences: " + text);
    }

    private void cover(String words) {
        String text = sections.getOrDefault(section, "");
        boolean[] done = covered.getOrDefault(section, new boolean[0]);
        int at = text.indexOf(words);
        while (at >= 0 && done[at]) {
            at = text.indexOf(words, at + 1);
        }
        if (at < 0) {
            fault("section " + section + " has no words: " + words);
        }
        for (int i = 0; at >= 0 && i < words.length(); i++) {
            done[at + i] = true;
        }
    }

    /** Words that name no boundary case, or only say what others say that have a test. */
    void plain(String words) {
        cover(words);
    }

    /** A test of its own for the words, with a new object. */
    void of(String words, Consumer<Desk> test) {
        cover(words);
        tests++;
        Desk.where = section + ": \"" + words + "\"";
        Watch.doing = Desk.where;
        int before = Desk.answers;
        try {
            test.accept(new Desk());
        } catch (RuntimeException | StackOverflowError thrown) {
            Desk.due("what was thrown: " + thrown + ", at all", 1, 0);
        }
        if (Desk.answers == before) {
            fault("nothing is compared for: " + words);
        }
    }

    /** Tells what is not covered. Returns how many faults there are, wrong answers not included. */
    int finish() {
        for (Map.Entry<String, String> e : sections.entrySet()) {
            boolean[] done = covered.get(e.getKey());
            StringBuilder open = new StringBuilder();
            for (int i = 0; i <= done.length; i++) {
                if (i < done.length && !done[i]) {
                    open.append(e.getValue().charAt(i));
                } else if (open.length() > 0) {
                    if (open.chars().anyMatch(Character::isLetterOrDigit)) {
                        fault("section " + e.getKey() + ": no test stands for \"" + open + "\"");
                    }
                    open.setLength(0);
                }
            }
        }
        return wrong;
    }

    int tests() {
        return tests;
    }
}
