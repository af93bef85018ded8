/** The boundary cases of promises 1 to 35, sentence by sentence; none that the document names is left out. */
public final class EdgesTest {
    private EdgesTest() {
    }

    public static void main(String[] args) throws Exception {
        Edges e = new Edges();
        new ToldEdges(e).run();
        new TextEdges(e).run();
        new DoneEdges(e).run();
        new ForetoldEdges(e).run();
        new SheetEdges(e).run();
        new RefusedEdges(e).run();
        e.end();
    }
}
