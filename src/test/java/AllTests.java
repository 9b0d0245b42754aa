import java.io.IOException;
import java.nio.file.Path;

/** Runs every test of the project: the source's path, the document's path. */
final class AllTests {
    private static final int ROUNDS = 400;

    private AllTests() {
    }

    public static void main(String[] args) throws IOException {
        Check check = new Check();
        PromiseTests.run(check);
        FaceTests.run(check, Path.of(args[0]), Path.of(args[1]));
        RoomTests.run(check);
        ReferenceTests.run(check, ROUNDS);
        System.out.println(check.sum());
        if (check.failed() > 0) {
            System.exit(1);
        }
    }
}
