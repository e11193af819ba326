import java.io.IOException;
import java.nio.file.Files;
import java.nio.file.Path;
import java.util.LinkedHashMap;
import java.util.Map;

/**
 * The document itself, ../shared/DOC.md: the tests quote its sentences, a quote that doesn't stand there is
 * wrong, and so is a sentence of what it is, of the terms or of a promise that no test quotes.
 */
final class Document {
    private static final Path PLACE = Path.of("..", "shared", "DOC.md");
    private static final Map<String, String> FORMS = new LinkedHashMap<>();
    private static final Map<String, String> SECTIONS = read();
    private static final Map<String, boolean[]> QUOTED = new LinkedHashMap<>();

    private Document() {
    }

    /** Opens a test of this sentence, or part of one, of a section ("Terms", "Promise 3"). */
    static void says(String section, String sentence) {
        Check.under(section + ": \"" + sentence + "\"");
        String text = SECTIONS.getOrDefault(section, "");
        int from = text.indexOf(sentence);
        Check.due("the quote stands in the document (1) or not (0)", from < 0 ? 0 : 1, 1);
        boolean[] quoted = QUOTED.computeIfAbsent(section, name -> new boolean[text.length()]);
        while (from >= 0) {
            for (int i = 0; i < sentence.length(); i++) {
                quoted[from + i] = true;
            }
            from = text.indexOf(sentence, from + sentence.length());
        }
    }

    /** Each sentence of what it is, of the terms and of the promises must have been quoted by now. */
    static void allQuoted() {
        int promises = 0;
        int others = 0;
        for (String section : SECTIONS.keySet()) {
            boolean promise = section.startsWith("Promise ");
            boolean other = section.equals("What it is") || section.equals("Terms");
            promises += promise ? 1 : 0;
            others += other ? 1 : 0;
            if (promise || other) {
                Check.under(section);
                Check.same("what no test quotes", notQuoted(section), "");
            }
        }
        Check.under("the document");
        Check.due("how many promises it has", promises, 14);
        Check.due("what it is, and the terms", others, 2);
    }

    /** The public face as the document writes it, in one line. */
    static String face() {
        return SECTIONS.getOrDefault("The public face", "");
    }

    /** The form of a promise's call, which stands ahead of its first sentence. */
    static String form(int promise) {
        return FORMS.getOrDefault("Promise " + promise, "");
    }

    private static String notQuoted(String section) {
        String text = SECTIONS.get(section);
        boolean[] quoted = QUOTED.getOrDefault(section, new boolean[text.length()]);
        StringBuilder rest = new StringBuilder();
        for (int i = 0; i < text.length(); i++) {
            rest.append(quoted[i] ? ' ' : text.charAt(i));
        }
        return rest.toString().replaceAll("\\s+", " ").trim();
    }

    private static Map<String, String> read() {
        Map<String, String> sections = new LinkedHashMap<>();
        String name = "";
        for (String line : lines()) {
            if (line.startsWith("## ")) {
                // "Promise 3: change" is known as "Promise 3".
                name = line.substring(3).split(":")[0].trim();
            } else if (!line.startsWith("```")) {
                sections.merge(name, line, (before, more) -> before + " " + more);
            }
        }
        sections.replaceAll((section, text) -> plain(section, text));
        return sections;
    }

    private static String plain(String section, String text) {
        String words = text.replaceAll("\\s+", " ").trim();
        if (!section.startsWith("Promise ")) {
            return words;
        }
        // A promise begins with the call's form, which FaceTest looks at.
        String[] parts = words.split("`", 3);
        FORMS.put(section, parts[1]);
        return parts[2].substring(": ".length());
    }

    private static Iterable<String> lines() {
        try {
            return Files.readAllLines(PLACE);
        } catch (IOException e) {
            throw new IllegalStateException("the document can't be read: " + PLACE.toAbsolutePath(), e);
        }
    }
}
