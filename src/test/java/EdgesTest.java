import java.io.IOException;

/** Every sentence of the document's Terms and promises has a test of its own, which quotes it. */
public final class EdgesTest {
    public static void main(String[] args) throws IOException {
        Due due = new Due();
        Document document = new Document();
        Edges[] parts = {
            new TermsEdges(due, document), new ForetoldEdges(due, document), new LaterEdges(due, document),
            new TextEdges(due, document), new BadEdges(due, document), new PromiseEdges(due, document),
            new SheetEdges(due, document),
        };
        for (Edges part : parts) {
            part.all();
            part.finish();
        }
        for (String sentence : document.left()) {
            due.holds("a test quotes: " + sentence, false);
        }
        due.end();
    }
}
