import java.io.IOException;
import java.nio.file.Files;
import java.nio.file.Path;

/** Each sentence of the document that a call's answer depends on, by a test that names its part and the sentence. */
public final class SentenceTests {
    private SentenceTests() {
    }

    public static void main(String[] args) throws IOException {
        TermSentences.tests();
        StoreSentences.tests();
        TextSentences.tests();
        BufferSentences.tests();
        LookSentences.tests();
        WouldBeSentences.tests();
        Path document = Path.of(args[1]);
        if (Files.exists(document)) {
            Sentences.compareWith(document);
        } else {
            System.out.println("SentenceTests: there is no " + document + " to compare the sentences with");
        }
        Check.finish("SentenceTests");
    }
}
