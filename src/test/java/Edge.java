import java.io.IOException;
import java.nio.file.Files;
import java.nio.file.Path;
import java.util.TreeSet;

/** Tests of the document's edges, each under the words that it stands for: words that must be in the document. */
final class Edge {
    private static final Path DOCUMENT = Path.of("../shared/DOC.md");
    private static final TreeSet<Integer> TESTED = new TreeSet<>();
    private static String document = "";

    private Edge() {
    }

    static void begin() throws IOException {
        document = squeezed(Files.readString(DOCUMENT));
    }

    static void of(int promise, String words, Runnable test) {
        Due.under("promise " + promise + " '" + words + "': ");
        Due.is("the words are in the document", document.contains(squeezed(words)) ? 1 : 0, 1);
        test.run();
        Due.under("");
        TESTED.add(promise);
    }

    /** To be called last, with the promises that the test is of. */
    static void end(int first, int last) {
        for (int promise = first; promise <= last; promise++) {
            Due.is("promise " + promise + " has a test", TESTED.contains(promise) ? 1 : 0, 1);
        }
        Due.end();
    }

    private static String squeezed(String words) {
        return words.replaceAll("\\s+", " ");
    }
}
