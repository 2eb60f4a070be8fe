/** Tests of single sentences: each names its promise's number and quotes the sentence that it is for. */
final class Edges {
    private final Check check = new Check();
    private final Document document = Document.read();
    private final boolean listing;
    private final int[] sentences = new int[47];
    private String sentence;
    private int answers;

    Edges(boolean listing) {
        this.listing = listing;
    }

    /** What follows is for this sentence, of the promise's own section or of the Terms that it uses. */
    void of(int promise, String quote) {
        close();
        sentence = "promise " + promise + ", \"" + quote + "\"";
        sentences[promise]++;
        if (document != null) {
            check.due(sentence + " stands in the document", document.quote(promise, quote), true);
        }
    }

    private void close() {
        if (sentence != null) {
            check.due(sentence + " has a test", answers > 0, true);
            if (listing) {
                System.out.println(sentence + ": " + answers);
            }
        }
        answers = 0;
    }

    void due(String call, long got, long want) {
        answers++;
        check.due(sentence + ": " + call, got, want);
    }

    void due(String call, boolean got, boolean want) {
        answers++;
        check.due(sentence + ": " + call, got, want);
    }

    void throwsNoSuchElement(String call, Runnable made) {
        answers++;
        check.throwsNoSuchElement(sentence + ": " + call, made);
    }

    void end() {
        close();
        for (int promise = 1; promise < sentences.length; promise++) {
            check.due("promise " + promise + " has a test", sentences[promise] > 0, true);
        }
        if (document == null) {
            System.out.println("the document is not there: its sentences are not compared");
        } else {
            String left = document.unquoted();
            check.due("sentences without a test:" + left + "\n ", left.isEmpty(), true);
        }
        check.end();
    }
}
