import java.io.IOException;
import java.io.UncheckedIOException;
import java.nio.file.Files;
import java.nio.file.Path;
import java.util.function.LongSupplier;

/** A sentence of the document that names an edge, with the test that is its own; and what a call at an edge may change. */
public final class Edge {
    static final int LOW = Integer.MIN_VALUE, HIGH = Integer.MAX_VALUE;
    private static final String DOCUMENT = document();

    private Edge() {
    }

    private static String document() {
        try {
            return Files.readString(Path.of("../shared/DOC.md")).replaceAll("\\s+", " ");
        } catch (IOException e) {
            throw new UncheckedIOException(e);
        }
    }

    static void holds(int promise, String sentence, Runnable test) {
        Due.sentence(promise, sentence);
        if (!DOCUMENT.contains(sentence)) Due.fault("the document does not say so");
        int before = Due.asked();
        test.run();
        if (Due.asked() == before) Due.fault("nothing was asked");
    }

    /** Refused as BAD: nothing but STATUS is changed. */
    static void bad(ConkerBouts x, String call, LongSupplier made) {
        refused(x, call, made, -2, 0);
    }

    /** BAD, where the document tells another answer for it. */
    static void badAs(long answer, ConkerBouts x, String call, LongSupplier made) {
        refused(x, call, made, answer, 0);
    }

    static void no(ConkerBouts x, String call, LongSupplier made) {
        refused(x, call, made, -3, 1);
    }

    static void full(ConkerBouts x, String call, LongSupplier made) {
        refused(x, call, made, -4, 2);
    }

    /** Answered, and nothing is changed by it, STATUS neither. */
    static void stays(ConkerBouts x, String call, LongSupplier made, long want) {
        refused(x, call, made, want, -1);
    }

    private static void refused(ConkerBouts x, String call, LongSupplier made, long want, int reason) {
        int[] counts = new int[3];
        for (int what = 0; what < 3; what++) counts[what] = x.status(what);
        long digest = x.digest();
        Due.due(call, made.getAsLong(), want);
        Due.due("digest() behind " + call, x.digest(), digest);
        for (int what = 0; what < 3; what++) {
            int more = what == reason ? 1 : 0;
            Due.due("status(" + what + ") behind " + call, x.status(what), counts[what] + more);
        }
    }
}
