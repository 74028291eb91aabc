import java.io.IOException;
import java.nio.file.Path;

/** Every sentence of what it is, of the Terms and of the promises 1 to 14 has a test of its own. */
public final class SentencesTest extends Asked {
    private static final Path DOCUMENT = Path.of("../shared/DOC.md");

    public static void main(String[] args) throws IOException {
        Sentences s = new Sentences();
        SentencesOfTheWhole.tell(s);
        SentencesOfKinds.tell(s);
        SentencesOfOps.tell(s);
        SentencesOfWork.tell(s);
        SentencesOfPromises.tell(s);
        s.compareWith(DOCUMENT);
        check.end();
    }
}
