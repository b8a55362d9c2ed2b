import java.io.IOException;
import java.io.UncheckedIOException;
import java.nio.file.Files;
import java.nio.file.Path;

// Tests of the document's edges. Each bears the number of its promise and the sentence that names
// the edge, word by word as it stands in the document; an answer that is wrong is printed with both.
final class Edges {
    static final int BAD = -1, STATE = -2, FULL = -3, NOT_SO_MANY = -5, NONE = -9, NO = -1000000;
    static final int LEAST = Integer.MIN_VALUE, GREATEST = Integer.MAX_VALUE;

    private static final Path DOCUMENT = Path.of("../shared/DOC.md");
    private static final int PROMISES = 30;

    private final Check c = new Check();
    private final String document = withSingleBlanks(read());
    private final int[] edgesOf = new int[PROMISES + 1];
    private String name = "";
    private int edges = 0;

    void edge(int promise, String sentence, String edge, Runnable test) {
        edges++;
        edgesOf[promise]++;
        name = "promise " + promise + ", \"" + sentence + "\", " + edge + ": ";
        due("the sentence stands in the document", document.contains(sentence) ? 1 : 0, 1);
        int asked = c.asked();
        test.run();
        due("something is asked", c.asked() > asked ? 1 : 0, 1);
    }

    void due(String call, long got, long want) {
        c.due(name + call, got, want);
    }

    void alike(String what, String got, String want) {
        c.due(name + what + "\n  " + got + "\n  " + want + "\n ", got.equals(want) ? 1 : 0, 1);
    }

    // None of the promises that are told here may be without an edge.
    void end(int... promises) {
        for (int promise : promises) {
            name = "promise " + promise + ": ";
            due("it has an edge", Math.min(edgesOf[promise], 1), 1);
        }
        System.out.println(edges + " edges");
        c.end();
    }

    private static String read() {
        try {
            return Files.readString(DOCUMENT);
        } catch (IOException e) {
            throw new UncheckedIOException(e);
        }
    }

    private static String withSingleBlanks(String text) {
        return text.replaceAll("\\s+", " ");
    }
}
