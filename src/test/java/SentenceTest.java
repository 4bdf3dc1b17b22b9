import java.io.IOException;
import java.nio.file.Files;
import java.nio.file.Path;

/** Each sentence of the document has a test of its own here; the arguments are the source and the document. */
public final class SentenceTest {
    public static void main(String[] args) throws IOException {
        TermSentences.test();
        HistorySentences.test();
        PromiseSentences.test();
        TellSentences.test();
        if (args.length > 1 && Files.isReadable(Path.of(args[1]))) {
            Sentences.compareWith(Path.of(args[1]));
        } else {
            System.out.println("no document to compare the sentences with");
        }
        Expect.end();
    }
}
