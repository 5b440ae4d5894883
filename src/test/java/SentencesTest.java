import java.io.IOException;

/** Every sentence of the document, from its first line to its last promise, has comparisons of its own. */
final class SentencesTest {
    public static void main(String[] args) throws IOException, IllegalAccessException {
        Sentences sentences = new Sentences();
        OverviewSentences.test(sentences);
        BanksSentences.test(sentences);
        MachineSentences.test(sentences);
        HistorySentences.test(sentences);
        ActsSentences.test(sentences);
        ToldSentences.test(sentences);
        sentences.close();
    }
}
