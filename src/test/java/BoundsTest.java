import java.io.IOException;
import java.nio.file.Path;

/** The boundary cases, a test for each sentence of the document that names one. */
public final class BoundsTest {
    public static void main(String[] args) throws IOException {
        Check check = new Check();
        Sentences sentences = new Sentences(check, Path.of("../shared/DOC.md"));
        new WallBounds(check, sentences).run();
        new TextBounds(check, sentences).run();
        new SketchBounds(check, sentences).run();
        new PainterBounds(check, sentences).run();
        new WorkBounds(check, sentences).run();
        new TownBounds(check, sentences).run();
        new RefusalBounds(check, sentences).run();
        sentences.allWereNamed();
        check.end();
    }
}
