/** Tests of single sentences of the document: each runs by itself, told by its promise and by the words it holds to. */
final class Sentences {
    interface Check {
        void of(Due due);
    }

    private final Due due = new Due("SentencesTest");
    private final Document document = new Document();
    private final boolean isListed;
    private int promise;
    private int tests;

    Sentences(boolean isListed) {
        this.isListed = isListed;
    }

    /** The tests that follow hold to this promise; 0: to what is said ahead of the promises, for all of them. */
    void promise(int number) {
        promise = number;
    }

    /** One test: the document's words, which case of them it is, and what must hold then. */
    void holds(String words, String which, Check check) {
        String place = (promise == 0 ? "all promises" : "promise " + promise) + ", \"" + words + "\": " + which;
        if (isListed) {
            System.out.println(place);
        }
        tests++;
        due.at(place);
        due.is("the document has these words", document.quotes(promise, words) ? 1 : 0, 1);
        int before = due.judged();
        try {
            check.of(due);
        } catch (RuntimeException | StackOverflowError e) {
            due.same("the test", e.toString(), "no exception");
        }
        due.is("the test looks at something", due.judged() > before ? 1 : 0, 1);
    }

    void end() {
        due.at("all sentences");
        for (String piece : document.unquoted()) {
            due.same("a sentence without a test", piece, "none");
        }
        System.out.println("SentencesTest: " + tests + " tests of sentences");
        due.end();
    }
}
