import java.io.IOException;
import java.util.Set;
import java.util.TreeSet;

/**
 * Which sentence of the document the checks look at. It counts a sentence that no check names, a named one that is
 * not in the document, and a named one behind which no check stands, as wrong.
 */
final class Edges {
    private final Check check = new Check("edges");
    private final Set<String> sentences;
    private final Set<String> named = new TreeSet<>();
    private String now = "";
    private boolean looked = true;

    Edges() throws IOException {
        sentences = Document.sentences();
    }

    void says(String sentence) {
        endOfSentence();
        check.isTrue("the document does not say: " + sentence, sentences.contains(sentence));
        named.add(sentence);
        now = sentence;
        looked = false;
    }

    private void endOfSentence() {
        check.isTrue("no check stands behind: " + now, looked);
    }

    void same(String call, long got, long want) {
        looked = true;
        check.same("\"" + now + "\": " + call, got, want);
    }

    void sameDouble(String call, double got, double want) {
        looked = true;
        check.sameDouble("\"" + now + "\": " + call, got, want);
    }

    void isTrue(String what, boolean holds) {
        looked = true;
        check.isTrue("\"" + now + "\": " + what, holds);
    }

    void end() {
        endOfSentence();
        for (String sentence : sentences) {
            check.isTrue("no test names: " + sentence, named.contains(sentence));
        }
        System.out.println("edges: " + named.size() + " sentences");
        check.end();
    }
}
