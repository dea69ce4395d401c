/** Each sentence of the document that names an edge: what is too small, too great, empty, full or refused. */
public final class EdgesTest {
    private EdgesTest() {
    }

    public static void main(String[] args) {
        Edges edges = new Edges();
        DocumentEdges.tell(edges);
        SegmentEdges.tell(edges);
        QueryEdges.tell(edges);
        SearchEdges.tell(edges);
        AskEdges.tell(edges);
        Refusals.tell(edges);
        edges.end();
    }
}
