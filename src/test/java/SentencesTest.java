/** Each sentence of the document that says what a call answers or changes, with tests of its own. */
public final class SentencesTest {
    public static void main(String[] args) {
        sentences().end("SentencesTest");
    }

    static Sentences sentences() {
        Sentences all = new Sentences();
        GraphSentences.addTo(all);
        SplitSentences.addTo(all);
        LevelSentences.addTo(all);
        RunSentences.addTo(all);
        StreamSentences.addTo(all);
        PlainGraphSentences.addTo(all);
        PlainSplitSentences.addTo(all);
        return all;
    }

    /** Called by BreaksTest on broken classes. */
    public static boolean holds(String number) {
        return sentences().wrongIn(number) == null;
    }
}
