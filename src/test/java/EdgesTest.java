import java.io.IOException;

/** Every sentence of the document that names an edge, one after another; Edge sees that none is left out. */
public final class EdgesTest {
    public static void main(String[] args) throws IOException {
        Edge.open();
        SwordEdges.test();
        LawEdges.test();
        HourEdges.test();
        ThoughtEdges.test();
        CriedEdges.test();
        DeedEdges.test();
        BladeEdges.test();
        ShelfEdges.test();
        RefusalEdges.test();
        Edge.close();
        Check.end("EdgesTest");
    }
}
