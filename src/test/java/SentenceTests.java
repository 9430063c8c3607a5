import java.nio.file.Path;

/** Tests of each sentence of the document's terms and promises, under the sentence itself. */
public final class SentenceTests {
    public static void main(String[] args) throws Exception {
        Sentences sentences = new Sentences(Path.of("../shared/DOC.md"));
        new TermSentences(sentences).test();
        new RuleSentences(sentences).test();
        new CanalSentences(sentences).test();
        new BargeSentences(sentences).test();
        new LockingSentences(sentences).test();
        new OrderSentences(sentences).test();
        new HistorySentences(sentences).test();
        new ToldSentences(sentences).test();
        sentences.end();
    }
}
