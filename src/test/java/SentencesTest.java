/** Each sentence of the document that names a boundary case, by itself; -Ddocument=FILE tells where it stands. */
public final class SentencesTest {
    public static void main(String[] args) {
        StrataSentences.run();
        RoundsSentences.run();
        VisitsSentences.run();
        ChecksSentences.run();
        WeightsSentences.run();
        ExceptionsSentences.run();
        compareWith(Document.at(System.getProperty("document")));
        System.out.println(Sentences.all().size() + " sentences");
        Expect.end();
    }

    private static void compareWith(Document document) {
        if (document == null) {
            System.out.println("the document is not there, so the sentences were not compared with it");
            return;
        }
        for (String sentence : Sentences.all()) {
            Expect.same("in the document: " + sentence, document.has(sentence), true);
        }
        for (String sentence : document.boundaries()) {
            Expect.same("tested: " + sentence, Sentences.all().contains(sentence), true);
        }
    }
}
