import java.io.IOException;

/** Every sentence of the document's terms and promises that names a boundary has comparisons of its own. */
final class SentencesTest {
    public static void main(String[] args) throws IOException {
        Sentences sentences = new Sentences();
        BanksSentences.test(sentences);
        MachineSentences.test(sentences);
        HistorySentences.test(sentences);
        ActsSentences.test(sentences);
        ToldSentences.test(sentences);
        sentences.close();
    }
}
