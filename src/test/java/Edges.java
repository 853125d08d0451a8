import java.io.IOException;
import java.nio.file.Files;
import java.nio.file.Path;
import java.util.TreeSet;

/** Tests of single sentences: each with a new hall, each called by the words of the document that it holds to. */
abstract class Edges extends Probe {
    protected static final int TERMS = 0;
    private static final TreeSet<Integer> TOLD = new TreeSet<>();
    private static String[] parts = {};
    private static int here = TERMS;

    /** The part that the following sentences stand in: a promise by its number, or all ahead of the promises. */
    protected static void part(int promise) {
        here = promise;
        TOLD.add(promise);
    }

    protected static void edge(String words, Runnable test) {
        if (!parts[here].contains(words)) {
            fail("the document doesn't say, in part " + here + ": " + words);
        }
        fresh((here == TERMS ? "terms" : "promise " + here) + ", \"" + words + "\"");
        test.run();
    }

    protected static void readDocument() throws IOException {
        String doc = Files.readString(Path.of("../shared/DOC.md")).replaceAll("\\s+", " ");
        parts = doc.split("## (?=Promise \\d+:)");
    }

    protected static void allTold(int from, int to) {
        for (int promise = from; promise <= to; promise++) {
            if (!TOLD.contains(promise)) {
                fail("no sentence of promise " + promise + " is tested");
            }
        }
        if (parts.length != 41) {
            fail("the document has " + (parts.length - 1) + " promises");
        }
    }
}
