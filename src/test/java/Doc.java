import java.io.IOException;
import java.nio.file.Files;
import java.nio.file.Path;
import java.util.ArrayList;
import java.util.List;

/**
 * The sentences of the document that tests quote: each quotation must stand there, word by word, and no
 * sentence may be left without a test, so that a document that changes shows which tests it asks for.
 */
final class Doc {
    private static final Path PLACE = Path.of("../shared/DOC.md");
    private static final String[] SECTIONS = {"What it is", "Terms", "Promise "};

    /** Sentences that ask for nothing by themselves: what follows them, or a test of the face, holds them. */
    private static final String[] WITHOUT_A_TEST = {
        "A quarry of grindstones beside a waterfall.",
        "Quarriers cut wheels out of beds, finer or coarser ones;",
        "A day goes like this, by the water of the day:",
        "Ahead of the calls ",
    };

    private static final List<String> sentences = new ArrayList<>();
    private static final List<String> sections = new ArrayList<>();
    private static final List<Boolean> quoted = new ArrayList<>();

    private Doc() {
    }

    /** Reads the document; to be called before the first quotation. */
    static void open() throws IOException {
        String section = "";
        for (String line : Files.readAllLines(PLACE)) {
            if (line.startsWith("## ")) {
                section = line.substring(3);
            } else if (isTested(section)) {
                cut(section, line);
            }
        }
        Due.holds("the document has sentences", !sentences.isEmpty());
    }

    /** What the test that calls this holds to, as the section says it. */
    static void says(String section, String quotation) {
        boolean found = false;
        for (int i = 0; i < sentences.size(); i++) {
            if (isOf(section, sections.get(i)) && sentences.get(i).contains(quotation)) {
                quoted.set(i, true);
                found = true;
            }
        }
        Due.by(section + ": " + quotation);
        Due.holds("the document says so", found);
    }

    static void isQuotedWhole() {
        Due.by("");
        for (int i = 0; i < sentences.size(); i++) {
            Due.holds("a test holds to " + sections.get(i) + ": " + sentences.get(i), quoted.get(i));
        }
    }

    private static boolean isTested(String section) {
        for (String tested : SECTIONS) {
            if (section.startsWith(tested)) {
                return true;
            }
        }
        return false;
    }

    private static boolean isOf(String asked, String section) {
        return section.equals(asked) || section.startsWith(asked + ":");
    }

    /** A line's sentences, without the signature, the dash or the number ahead of them. */
    private static void cut(String section, String line) {
        String text = line.replaceFirst("^`[^`]*\\)[^`]*`: ", "").replaceFirst("^\\s*(- |\\d+\\. |```.*)", "").strip();
        for (String sentence : text.split("(?<=\\.) (?=[A-Z])")) {
            boolean isName = sentence.matches("(\\w+\\.)?");
            if (!isName && !asksForNothing(sentence)) {
                sections.add(section);
                sentences.add(sentence);
                quoted.add(false);
            }
        }
    }

    private static boolean asksForNothing(String sentence) {
        for (String start : WITHOUT_A_TEST) {
            if (sentence.startsWith(start)) {
                return true;
            }
        }
        return false;
    }
}
