import java.io.IOException;
import java.util.List;

/**
 * Each sentence of the document at its boundary: the least and the greatest numbers and the first beyond them,
 * nothing, all that may be, the ends of int, and refusals. It fails, too, if a sentence has no test.
 */
public final class EdgesTest {
    public static void main(String[] args) throws IOException {
        Checks checks = new Checks();
        Document document = new Document();
        List<Edges> parts = List.of(
            new EdgesOfTerms(checks, document),
            new EdgesOfBarTerms(checks, document),
            new EdgesOfNet(checks, document),
            new EdgesOfLoads(checks, document),
            new EdgesOfWays(checks, document),
            new EdgesOfSending(checks, document),
            new EdgesOfOnes(checks, document),
            new EdgesOfWalls(checks, document),
            new EdgesOfShares(checks, document),
            new EdgesOfKept(checks, document));
        for (Edges part : parts) {
            runPart(checks, part);
        }
        for (String left : document.notNamed()) {
            checks.due("no test names " + left, 0, 1);
        }
        checks.finish();
    }

    /** A yard that can't be built is a wrong answer of the sentence that wants it; the other parts still run. */
    private static void runPart(Checks checks, Edges part) {
        try {
            part.run();
        } catch (IllegalStateException e) {
            e.printStackTrace(System.out);
            checks.due(part.sentence() + ": " + e.getMessage(), 0, 1);
        }
    }
}
