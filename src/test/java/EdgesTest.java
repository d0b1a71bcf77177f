import java.io.IOException;

/**
 * Every sentence of the document, and above all each that names a boundary, has a test of its own here, which says the
 * promise and the sentence; at last it is looked at whether one was left out.
 */
public final class EdgesTest {
    public static void main(String[] args) throws IOException, ReflectiveOperationException {
        Document document = new Document();
        Edges.reads(document);
        OpeningEdges.all();
        SettingsEdges.all();
        PostsEdges.all();
        JudgesEdges.all();
        VotesEdges.all();
        CasesEdges.all();
        WritersEdges.all();
        BehindEdges.all();
        document.everySentenceIsQuoted();
        document.everyTermIsTestedWhereItIsUsed();
        Due.end();
    }
}
