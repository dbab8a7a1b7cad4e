import java.io.IOException;

/** Each sentence of the document by its words: both sides of its ranges, empty and full, refused calls. */
public final class EdgesTest {
    public static void main(String[] args) throws IOException {
        Edges edges = new Edges();
        EdgeChecks[] parts = {
            new EdgesOfTerms(edges), new EdgesOfHistory(edges), new EdgesOfRefusals(edges), new EdgesOfActs(edges),
            new EdgesOfAnswers(edges),
        };
        for (EdgeChecks part : parts) {
            part.all();
        }
        edges.end();
    }
}
