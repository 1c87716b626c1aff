/** One part of the edge tests: a stretch of the document, sentence by sentence. */
abstract class EdgePart {
    final Edges edges;

    EdgePart(Edges edges) {
        this.edges = edges;
    }

    abstract void run();

    void term(String quote) {
        edges.sentence("Terms", quote);
    }

    void promise(int number, String quote) {
        edges.sentence("Promise " + number, quote);
    }

    void due(String call, long got, long want) {
        edges.due(call, got, want);
    }

    void due(String call, boolean got, boolean want) {
        edges.due(call, got, want);
    }
}
