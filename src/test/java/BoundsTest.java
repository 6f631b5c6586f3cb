import java.nio.file.Path;

/** Each sentence of the document that names a boundary case, by tests that bear its words. */
public final class BoundsTest {
    public static void main(String[] args) throws Exception {
        Due due = new Due("BoundsTest");
        Doc doc = new Doc(Path.of("../shared/DOC.md"));
        // The document's use, its terms, five parts and 29 promises.
        due.is("sections of the document", doc.sections(), 36);
        Bounds b = new Bounds(doc, due);
        new TermsBounds(b).run();
        new RingBounds(b).run();
        new StepsBounds(b).run();
        new RowsBounds(b).run();
        new ReadingsBounds(b).run();
        new SheetsBounds(b).run();
        due.is("what no test names: " + doc.unnamed(), doc.unnamed().length(), 0);
        due.end();
    }
}
