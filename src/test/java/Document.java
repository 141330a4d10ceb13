import java.io.IOException;
import java.nio.file.Files;
import java.nio.file.Path;
import java.util.LinkedHashMap;
import java.util.Map;

/**
 * The sentences of ../shared/DOC.md. A test quotes each one that it holds the class against; a
 * quote that does not stand there is wrong, and so is a sentence that no test quotes.
 */
final class Document {
    private static final Path FILE = Path.of("..", "shared", "DOC.md");
    private static final String SIGNATURE = "^`[^`]*`: ";
    private static final String ARGUMENT_WITHOUT_A_NUMBER = "- `[^`]*`:\\D*";

    private static final Map<String, Section> SECTIONS = read();
    private static Section current;

    private static final class Section {
        final StringBuilder text = new StringBuilder();
        /** Grows with the text; true where a test has quoted it. */
        boolean[] quoted = new boolean[0];

        void add(String line) {
            String words = line.replaceFirst(SIGNATURE, "").strip().replaceAll("\\s+", " ");
            if (words.isEmpty() || words.startsWith("```")
                || words.matches(ARGUMENT_WITHOUT_A_NUMBER)) {
                return;
            }
            text.append(words).append(' ');
            quoted = new boolean[text.length()];
        }
    }

    private Document() {
    }

    private static Map<String, Section> read() {
        Map<String, Section> sections = new LinkedHashMap<>();
        Section open = new Section();
        try {
            for (String line : Files.readAllLines(FILE)) {
                if (line.startsWith("## ")) {
                    open = new Section();
                    sections.put(line.substring(3).replaceFirst(":.*", ""), open);
                } else {
                    open.add(line);
                }
            }
        } catch (IOException e) {
            throw new IllegalStateException("no document at " + FILE.toAbsolutePath(), e);
        }
        return sections;
    }

    /** The next sentences stand in this promise. */
    static void promise(int number) {
        open("Promise " + number);
    }

    /** The next sentences stand in the terms. */
    static void terms() {
        open("Terms");
    }

    /** The next sentences stand in the first section. */
    static void whatItIs() {
        open("What it is");
    }

    private static void open(String name) {
        current = SECTIONS.get(name);
        Check.same("there is a section " + name, current == null ? 0 : 1, 1);
    }

    /** What is asked next is due by this sentence. */
    static void says(String sentence) {
        Check.about(sentence);
        int from = current.text.indexOf(sentence);
        Check.same("the document says this in its section", from >= 0 ? 1 : 0, 1);
        while (from >= 0) {
            java.util.Arrays.fill(current.quoted, from, from + sentence.length(), true);
            from = current.text.indexOf(sentence, from + 1);
        }
    }

    /** This sentence is not for a test of edges: other tests hold the class against it, or none. */
    static void namesNoEdge(String sentence) {
        says(sentence);
    }

    /** The terms and each promise have to be quoted from their first word to their last one. */
    static void end() {
        Check.about("");
        int promises = 0;
        for (String name : SECTIONS.keySet()) {
            if (name.startsWith("Promise ") || name.equals("Terms") || name.equals("What it is")) {
                promises += name.startsWith("Promise ") ? 1 : 0;
                tellUnquoted(name, SECTIONS.get(name));
            }
        }
        Check.same("promises of the document", promises, 23);
    }

    private static void tellUnquoted(String name, Section section) {
        StringBuilder left = new StringBuilder();
        for (int i = 0; i < section.text.length(); i++) {
            left.append(section.quoted[i] ? ' ' : section.text.charAt(i));
        }
        String unquoted = left.toString().strip().replaceAll("\\s+", " ");
        Check.same("quoted by no test in " + name + ": \"" + unquoted + "\"", unquoted.length(), 0);
    }
}
