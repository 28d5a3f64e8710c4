import java.io.IOException;
import java.nio.file.Files;
import java.nio.file.Path;

/** Tests that hold one sentence of the document each, and tell which one when an answer is not as due. */
final class Sentences {
    private static final Path DOCUMENT = Path.of("../shared/DOC.md");

    private final String name;
    private final String document;

    Sentences(String name) throws IOException {
        this.name = name;
        document = Files.exists(DOCUMENT) ? withPlainSpaces(Files.readString(DOCUMENT)) : null;
        if (document == null) {
            System.out.println(name + ": there is no " + DOCUMENT + ", so the sentences are not looked up");
        }
    }

    private static String withPlainSpaces(String text) {
        return text.replaceAll("\\s+", " ");
    }

    /** Runs the test of a sentence, which must stand in the document letter by letter. */
    void test(String sentence, Runnable test) {
        Check.head(sentence);
        if (document != null) {
            Check.due("the sentence stands in the document", document.contains(sentence) ? 1 : 0, 1);
        }
        test.run();
    }

    /** Runs the test of what a sentence says of one call. */
    void test(String sentence, String call, Runnable test) {
        test(sentence, () -> {
            Check.head(call + ": " + sentence);
            test.run();
        });
    }

    void end() {
        Check.head("");
        Check.end(name);
    }
}
