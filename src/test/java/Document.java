import java.io.IOException;
import java.nio.file.Files;
import java.nio.file.Path;
import java.util.LinkedHashMap;
import java.util.List;
import java.util.Map;

/**
 * The document, of which each test of an edge quotes the words that it holds the program to. So it can
 * be told whether a sentence of the document has no test, and whether a test has no sentence.
 */
final class Document {
    private static final Path FILE = Path.of("../shared/DOC.md");

    /** The section that FaceTest holds the class to; all the others are to be quoted. */
    private static final String FACE = "The public face";

    private final Checks checks;
    private final Map<String, StringBuilder> sections = new LinkedHashMap<>();

    /** Of each section that is to be quoted, what no test has quoted yet. */
    private final Map<String, String> open = new LinkedHashMap<>();

    Document(Checks checks) throws IOException {
        this.checks = checks;
        read();
        for (Map.Entry<String, StringBuilder> section : sections.entrySet()) {
            String name = section.getKey();
            if (!name.equals(FACE)) {
                open.put(name, section.getValue().toString().replaceAll("`[^`]*`:", ""));
            }
        }
    }

    private void read() throws IOException {
        if (!isThere()) {
            System.out.println(FILE + " is not there: the words that tests quote are not looked up");
            return;
        }
        StringBuilder text = new StringBuilder();
        for (String line : Files.readAllLines(FILE)) {
            if (line.startsWith("## ")) {
                text = new StringBuilder();
                sections.put(nameOf(line.substring(3)), text);
            } else {
                text.append(line).append('\n');
            }
        }
    }

    private static boolean isThere() {
        return Files.exists(FILE);
    }

    /** "Promise 2: begin" is called "Promise 2" here. */
    private static String nameOf(String heading) {
        return heading.startsWith("Promise ") ? heading.substring(0, heading.indexOf(':')) : heading;
    }

    /** The lines of the face, without its first and its last; none where the document is missing. */
    List<String> face() {
        StringBuilder text = sections.getOrDefault(FACE, new StringBuilder());
        return text.toString().lines().filter(line -> line.startsWith("    ")).map(String::trim).toList();
    }

    /** The checks to come hold the program to these words of a section. */
    void quote(String section, String words) {
        checks.about(section + ", \"" + words + "\"");
        StringBuilder text = sections.get(section);
        checks.holds("the document has these words", !isThere() || text != null && text.indexOf(words) >= 0);
        open.computeIfPresent(section, (name, rest) -> rest.replace(words, ""));
    }

    /** To be called when all tests have quoted their words. */
    void nothingIsLeft() {
        checks.about("The document");
        checks.holds("its promises are found", !isThere() || open.size() > 1);
        for (Map.Entry<String, String> section : open.entrySet()) {
            String rest = section.getValue().replaceAll("[\\s.,:;()]+", " ").trim();
            checks.same(section.getKey() + ", what no test quotes,", rest, "");
        }
    }
}
