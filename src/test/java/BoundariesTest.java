import java.io.IOException;
import java.nio.file.Path;

/**
 * A test of each sentence of the document, with the edges that it names: just inside, just outside, empty, full,
 * a wrap-around, a refused call. Argument: the folder of DOC.md.
 */
public final class BoundariesTest {
    public static void main(String[] args) throws IOException {
        Sentences.read(Path.of(args.length > 0 ? args[0] : "../shared", "DOC.md"));
        TermsSentences.test();
        AnswersSentences.test();
        PromiseSentences.test();
        QuestionSentences.test();
        if (!Sentences.end()) {
            System.exit(1);
        }
    }
}
