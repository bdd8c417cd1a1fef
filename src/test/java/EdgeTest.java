import java.io.IOException;

/**
 * Each sentence of the document that names a boundary case, with a test of its own: the sentence is
 * quoted ahead of its checks, and Document looks whether all of them are.
 */
public final class EdgeTest {
    public static void main(String[] args) throws IOException {
        Check check = new Check("EdgeTest");
        new MapEdges(check).run();
        new UnitEdges(check).run();
        new TurnEdges(check).run();
        new SightEdges(check).run();
        new SightingEdges(check).run();
        new SaveEdges(check).run();
        new SumEdges(check).run();
        new RefusalEdges(check).run();
        check.leaveSentence();
        Document document = new Document(Document.FILE);
        document.holds(check.quotes(), check);
        document.isQuotedIn(check.quotes(), check);
        check.end();
    }
}
