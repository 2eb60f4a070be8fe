/**
 * Promises 1 to 46, sentence by sentence: each sentence of the document has a test of its own, which quotes it.
 * The quotes are compared with ../shared/DOC.md, and so is that none of its sentences is without one.
 * With the argument 'list' it prints each sentence with how many answers it was tested by.
 */
public final class EdgeTest {
    private EdgeTest() {
    }

    public static void main(String[] args) {
        Edges e = new Edges(args.length > 0 && args[0].equals("list"));
        new TextEdges(e).run();
        new YearEdges(e).run();
        new ActEdges(e).run();
        new BookEdges(e).run();
        new AheadEdges(e).run();
        new PairEdges(e).run();
        new LetterEdges(e).run();
        new SentenceEdges(e).run();
        e.end();
    }
}
