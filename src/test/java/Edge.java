/** A sentence of the document that names a boundary, and calls just below, at and just above it. */
final class Edge {
    private static final Document DOCUMENT = Document.read();
    private static int edges;

    private Edge() {
    }

    interface Calls {
        void run();
    }

    /** The sentence stands under the promise, or in the parts of the document that say what its words mean. */
    static void of(int promise, String sentence, Calls calls) {
        edges++;
        Check.about("Promise " + promise + ", \"" + sentence + "\": ");
        if (!DOCUMENT.quote(promise, sentence)) {
            Check.failed("it doesn't stand in the document");
        }
        int before = Check.made();
        try {
            calls.run();
        } catch (RuntimeException | Error e) {
            Check.failed("a call threw " + e);
        }
        if (Check.made() - before < 2) {
            Check.failed("it has no calls on both sides of a boundary");
        }
        Check.about("");
    }

    static void end() {
        DOCUMENT.tellWhatIsLeft();
        System.out.println(edges + " sentences that name a boundary");
        Check.end();
    }
}
