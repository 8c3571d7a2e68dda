/** Promises 1 to 32: each sentence of the document that names a boundary, one after the other. */
public final class EdgesTest {
    public static void main(String[] args) {
        TextEdges.all();
        FactEdges.all();
        PlaceEdges.all();
        PackingEdges.all();
        ScaleEdges.all();
        PeopleEdges.all();
        SeenEdges.all();
        Edge.end();
    }
}
