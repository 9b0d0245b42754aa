import java.io.IOException;
import java.nio.file.Files;
import java.nio.file.Path;

/** Runs every test of the project: the source's path, the document's path. */
final class AllTests {
    private static final int ROUNDS = 400;

    private AllTests() {
    }

    public static void main(String[] args) throws IOException {
        Path source = Path.of(args[0]);
        Path document = Path.of(args[1]);
        Check check = new Check();
        PromiseTests.run(check);
        sentences(check, Files.readString(document));
        FaceTests.run(check, source, document);
        RoomTests.run(check);
        ReferenceTests.run(check, ROUNDS);
        System.out.println(check.sum());
        if (check.failed() > 0) {
            System.exit(1);
        }
    }

    private static void sentences(Check check, String document) {
        WaveletSentences.run(check, document);
        PassSentences.run(check, document);
        CoderSentences.run(check, document);
        CoderSteps.run(check, document);
        StreamSentences.run(check, document);
        CallSentences.run(check, document);
    }
}
