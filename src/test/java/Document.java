import java.io.IOException;
import java.nio.charset.StandardCharsets;
import java.nio.file.Files;
import java.nio.file.Paths;
import java.util.LinkedHashSet;
import java.util.Set;

/**
 * The sentences of ../shared/DOC.md, so that a test can name the one that it looks at and none goes without a test.
 * A sentence of a promise has the promise's number in front, and its "Returns" line and its list of what can be
 * asked are cut into their parts.
 */
final class Document {
    private static final String FILE = "../shared/DOC.md";

    private final Set<String> sentences = new LinkedHashSet<>();
    private String promise = "";
    private boolean wanted = false;

    private Document() {
    }

    static Set<String> sentences() throws IOException {
        Document document = new Document();
        for (String line : Files.readAllLines(Paths.get(FILE), StandardCharsets.UTF_8)) {
            document.read(line);
        }
        return document.sentences;
    }

    private void read(String line) {
        if (line.startsWith("## ")) {
            promise = line.startsWith("## Promise ") ? line.replaceAll("[^0-9]*([0-9]+):.*", "$1 ") : "";
            wanted = !promise.isEmpty() || line.equals("## Terms") || line.equals("## What it is");
        } else if (wanted && !isNoSentence(line)) {
            cut(line.replaceFirst("^`\\w+ ?\\w+\\([^`]*`: ", ""));
        }
    }

    /** What only names a part of the document, or describes it as a whole. */
    private static boolean isNoSentence(String line) {
        return line.equals(line.toUpperCase()) || line.startsWith("Ahead of the calls ")
            || line.startsWith("A ship's logbook ");
    }

    private void cut(String line) {
        String plain = line.replaceFirst("^The constants: ", "").replaceFirst("^- ", "").replace("`", "");
        if (line.startsWith("Returns ")) {
            cutOutsideOfParentheses(plain.substring(0, plain.length() - 1));
        } else if (plain.startsWith("what: ")) {
            for (String part : plain.substring("what: ".length()).split(", (?=[0-9]+ (to [0-9]+ )?for )")) {
                sentences.add(promise + "what: " + part);
            }
        } else if (line.startsWith("- ") || line.contains("`: ")) {
            sentences.add(promise + plain);
        } else {
            for (String sentence : plain.split("(?<=\\.) (?=[A-Z])")) {
                sentences.add(promise + sentence);
            }
        }
    }

    private void cutOutsideOfParentheses(String line) {
        int depth = 0;
        int start = 0;
        for (int i = 0; i < line.length(); i++) {
            char sign = line.charAt(i);
            depth += sign == '(' ? 1 : sign == ')' ? -1 : 0;
            if (sign == ';' && depth == 0) {
                sentences.add(promise + line.substring(start, i));
                start = i + 2;
            }
        }
        sentences.add(promise + line.substring(start));
    }
}
