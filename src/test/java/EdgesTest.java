import java.io.IOException;
import java.nio.file.Path;

/** Promises 1 to 32: their edges, sentence by sentence; and every sentence of the document is named by one of them. */
public final class EdgesTest {
    private static final Check CHECK = new Check("EdgesTest");

    public static void main(String[] args) throws IOException {
        Document document = Document.read(Path.of("../shared/DOC.md"));
        if (!document.isMissing()) {
            CHECK.due("the terms and 32 promises", 33, document.howManySections());
        }
        Edges[] edges = {
            new SheetEdges(CHECK, document), new RuleEdges(CHECK, document), new TextEdges(CHECK, document),
            new BookingEdges(CHECK, document), new HoldingEdges(CHECK, document), new FuneralEdges(CHECK, document),
            new HeatEdges(CHECK, document), new KeyEdges(CHECK, document), new LookEdges(CHECK, document),
            new MeetingEdges(CHECK, document), new AskedEdges(CHECK, document), new RefusalEdges(CHECK, document)};
        for (Edges e : edges) {
            e.all();
        }
        for (String words : document.unnamed()) {
            CHECK.due("no test of edges names '" + words + "'", 1, 0);
        }
        CHECK.end();
    }
}
