import java.io.IOException;
import java.io.UncheckedIOException;
import java.util.List;

/**
 * Promises 1 to 56, sentence by sentence: each sentence of the document that names a boundary case has
 * a test of its own, which bears the number of the promise and the words of the sentence. What several
 * promises share stands in the section "Terms".
 */
public final class BoundaryTest {
    public static void main(String[] args) {
        CommitteeBounds.tests();
        TailBounds.tests();
        MotionBounds.tests();
        VoteBounds.tests();
        HourBounds.tests();
        CommandBounds.tests();
        LineBounds.tests();
        InvariantBounds.tests();
        HistoryBounds.tests();
        if (Document.isHere()) {
            Check.test("each sentence that a test names is one of the document", BoundaryTest::noStrange);
            Check.test("each sentence with a boundary has a test", BoundaryTest::noneMissing);
        } else {
            System.out.println("the document is not here: the sentences are not compared with it");
        }
        Check.end();
    }

    private static void noStrange() {
        for (String sentence : read(true)) {
            Check.fail("not in the document: " + sentence);
        }
    }

    private static void noneMissing() {
        for (String sentence : read(false)) {
            Check.fail("without a test: " + sentence);
        }
    }

    private static List<String> read(boolean strange) {
        try {
            return strange ? Document.strange() : Document.missing();
        } catch (IOException e) {
            throw new UncheckedIOException(e);
        }
    }
}
