import java.io.IOException;
import java.nio.file.Files;
import java.nio.file.Path;
import java.util.LinkedHashMap;
import java.util.Map;

/** The document's own words: a test says which of them it holds, and none is left without a test. */
final class Sentences {
    private static final Path DOCUMENT = Path.of("../shared/DOC.md");

    private static final class Section {
        final String text;
        final boolean[] quoted;

        Section(String text) {
            this.text = text;
            quoted = new boolean[text.length()];
        }
    }

    private final Check check = new Check();
    private final Map<String, Section> sections = new LinkedHashMap<>();
    private String now = "";

    Sentences() throws IOException {
        if (!Files.isReadable(DOCUMENT)) {
            System.out.println(DOCUMENT + " is not there: the quotes are not looked up in it");
            return;
        }
        for (String part : Files.readString(DOCUMENT).split("\n## ")) {
            String heading = part.substring(0, part.indexOf('\n'));
            sections.put(heading.split(":")[0], new Section(wordsOf(part.substring(heading.length()))));
        }
    }

    /** Without the signs that set the text, the numbers of its parts, and the heads of methods. */
    private static String wordsOf(String text) {
        return text.replace("```text", " ").replace("```", " ").replaceAll("======== [0-9]", " ")
                .replaceAll("`[^`]*`:", " ").replaceAll("\\s+", " ");
    }

    /** From here on, what is looked at holds this sentence; it must stand in the section, once. */
    void sentence(String where, String quote) {
        now = where + ", \"" + quote + "\": ";
        if (sections.isEmpty()) {
            return;
        }
        Section section = sections.get(where);
        int from = section == null ? -1 : section.text.indexOf(quote);
        check.holds(now + "the document says so once",
                from >= 0 && section.text.indexOf(quote, from + 1) < 0);
        for (int i = 0; from >= 0 && i < quote.length(); i++) {
            section.quoted[from + i] = true;
        }
    }

    void due(String what, long got, long want) {
        check.due(now + what, got, want);
    }

    void holds(String what, boolean itDoes) {
        check.holds(now + what, itDoes);
    }

    void end() {
        sections.forEach((where, section) -> {
            if (where.equals("Terms") || where.startsWith("Promise ")) {
                String left = unquoted(section);
                check.holds(where + ": a test holds each sentence; none holds \"" + left + "\"", left.isEmpty());
            }
        });
        check.end();
    }

    private static String unquoted(Section section) {
        StringBuilder left = new StringBuilder();
        for (int i = 0; i < section.quoted.length; i++) {
            left.append(section.quoted[i] ? '|' : section.text.charAt(i));
        }
        return left.toString().replaceAll("[^A-Za-z0-9]+", " ").trim();
    }
}
