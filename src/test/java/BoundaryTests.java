import java.io.IOException;
import java.nio.file.Files;
import java.nio.file.Path;

/** Each sentence of the document that names a boundary has a test of its own, with its words as the name. */
public final class BoundaryTests {
    public static void main(String[] args) throws IOException {
        TermsBoundaries.all();
        HourBoundaries.all();
        VillageBoundaries.all();
        SkierBoundaries.all();
        ShowBoundaries.all();
        AheadBoundaries.all();
        Path document = Path.of(args[1]);
        if (Files.exists(document)) {
            Sentence.compareWithDocument(document);
        } else {
            System.out.println("the document is not there: the names of the tests are not compared with it");
        }
        System.out.println("BoundaryTests: " + Sentence.tests() + " sentences");
        Check.end("BoundaryTests");
    }
}
