import java.io.IOException;

/**
 * The boundary cases of the document, sentence by sentence. Each sentence is quoted by the test that
 * is about it; a sentence without a test is a fault.
 */
final class EdgesTest {
    private EdgesTest() {
    }

    public static void main(String[] args) throws IOException {
        Document.read();
        TermsEdges.test();
        ArgumentEdges.test();
        ClockEdges.test();
        LineEdges.test();
        ImpactEdges.test();
        CauseEdges.test();
        Document.dueAllTested(
                "What it is: A book of an outage: lines with times from several clocks that are off, marks that"
                        + " bind two clocks, what must have come before what, an order of lines that is told,"
                        + " lines that are doubted, impact by services and minutes, causes that are withdrawn,"
                        + " and a story for outsiders.",
                "Terms: Lines, marks, doubts, measures and causes are told by calls; bounds, orders, impact,"
                        + " roots and the story can be asked for.");
        Check.end("EdgesTest");
    }
}
