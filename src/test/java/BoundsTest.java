import java.io.IOException;
import java.nio.file.Path;

/** A test of its own for each sentence of the document; its path is the second argument. */
final class BoundsTest {
    private BoundsTest() {
    }

    public static void main(String[] args) throws IOException {
        Sentences doc = new Sentences(Path.of(args[1]));
        busyRing();
        RingBounds.run(doc);
        SpoolBounds.run(doc);
        ChordBounds.run(doc);
        FaceBounds.run(doc);
        BestBounds.run(doc);
        TextBounds.run(doc);
        StateBounds.run(doc);
        CountBounds.run(doc);
        doc.allAreNamed();
        Check.end();
    }

    /** What the tests that begin with it lean on. */
    private static void busyRing() {
        int[] due = {24, 3, 3, 1, 1, 5};
        int[] whats = {0, 3, 4, 5, 6, 12};
        RingThreads x = Twins.made(Rings::busy);
        for (int i = 0; i < due.length; i++) {
            Check.equal("count(" + whats[i] + ") of the busy ring", due[i], x.count(whats[i]));
        }
    }
}
