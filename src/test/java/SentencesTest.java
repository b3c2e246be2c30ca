/** Each sentence of the document that names a boundary case, by a test of its own; the argument "list" tells them. */
public final class SentencesTest {
    private SentencesTest() {
    }

    public static void main(String[] args) {
        Sentences s = new Sentences(args.length > 0 && args[0].equals("list"));
        TablesTerms.all(s);
        RulesTerms.all(s);
        SizesTerms.all(s);
        TextsTerms.all(s);
        TablesSentences.all(s);
        TextsSentences.all(s);
        LooksSentences.all(s);
        WouldBeSentences.all(s);
        s.end();
    }
}
