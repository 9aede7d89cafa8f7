import java.io.IOException;
import java.nio.file.Files;
import java.nio.file.Path;
import java.util.Set;
import java.util.TreeSet;

/** Checks under sentences of the document: each is quoted word by word, and must stand where it is said to stand. */
final class Sentences {
    private static final Path DOCUMENT = Path.of("../shared/DOC.md");
    private static final int PROMISES = 29;

    private final Checks checks = new Checks();
    private final Set<Integer> promises = new TreeSet<>();
    private final String document;
    private String sentence = "";

    Sentences() {
        try {
            document = Files.readString(DOCUMENT).replaceAll("\\s+", " ");
        } catch (IOException e) {
            throw new IllegalStateException("the document is not at " + DOCUMENT, e);
        }
    }

    /** What is due from here on is due by this sentence of the document. */
    void of(String words) {
        begin(words, document);
    }

    /** What is due from here on is due by this sentence of a promise. */
    void ofPromise(int number, String words) {
        promises.add(number);
        begin(words, promise(number));
    }

    private void begin(String words, String within) {
        sentence = words;
        checks.dueTrue("the document says: " + words, within.contains(words));
    }

    private String promise(int number) {
        int from = document.indexOf("## Promise " + number + ":");
        int to = document.indexOf(" ## ", from + 1);
        return from < 0 ? "" : document.substring(from, to < 0 ? document.length() : to);
    }

    void due(String call, long got, long want) {
        checks.due("\"" + sentence + "\": " + call, got, want);
    }

    void dueTrue(String what, boolean holds) {
        due(what, holds ? 1 : 0, 1);
    }

    void dueEachPromise() {
        checks.due("promises with sentences tested", promises.size(), PROMISES);
    }

    void end() {
        checks.end();
    }
}
