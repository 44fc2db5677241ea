/**
 * Every sentence of the document's terms and promises, and the boundary cases that it names, each with tests of its
 * own: Doc tells in the end for which sentence there was none.
 */
final class EdgeTests {
    private EdgeTests() {
    }

    public static void main(String[] args) throws java.io.IOException {
        Doc.read();
        TermsEdges.run();
        ParkEdges.run();
        YearEdges.run();
        TriedEdges.run();
        TextEdges.run();
        ThingEdges.run();
        Promises1To15.run();
        Promises16To32.run();
        Promises33To47.run();
        Doc.allIsSaid();
        Check.end();
    }
}
