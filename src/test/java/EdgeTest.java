/** For each sentence of the document that names an edge a test of its own (see Edges). */
public final class EdgeTest {
    public static void main(String[] args) {
        Edges edges = new Edges();
        new EdgesOfTexts(edges).run();
        new EdgesOfCosts(edges).run();
        edges.wholeQuoted("Terms");
        new EdgesOfChanges(edges).run();
        new EdgesOfAnswers(edges).run();
        edges.finish();
    }
}
