/** Each sentence of the document that names a boundary case, with a test of its own. */
public final class EdgesTest {
    public static void main(String[] args) {
        sentences().end("EdgesTest");
    }

    static Sentences sentences() {
        Sentences all = new Sentences();
        GraphEdges.addTo(all);
        SplitEdges.addTo(all);
        LevelEdges.addTo(all);
        RunEdges.addTo(all);
        StreamEdges.addTo(all);
        return all;
    }

    /** Called by BreaksTest on broken classes. */
    public static boolean holds(String number) {
        return sentences().wrongIn(number) == null;
    }
}
