import java.io.IOException;
import java.nio.file.Files;
import java.nio.file.Path;

/**
 * The document sentence by sentence, promises 1 to 33 and the terms: a test for each sentence or
 * clause, which quotes it. With the document as second argument the quotes are looked up in it,
 * and no sentence may be left without one.
 */
public final class SentencesTest {
    public static void main(String[] arguments) throws IOException {
        Path document = Path.of(arguments.length > 1 ? arguments[1] : "../shared/DOC.md");
        if (Files.isReadable(document)) {
            Sentences.readDocument(document);
        } else {
            System.out.println("the quotes are not looked up: there is no " + document);
        }
        TermsSentences.test();
        ErrorsSentences.test();
        InputsSentences.test();
        KeysAndBridgesSentences.test();
        MotionsSentences.test();
        TestsAndTimeSentences.test();
        TextsSentences.test();
        Sentences.dueAllQuoted();
        Checks.end("SentencesTest");
    }
}
