import java.io.IOException;
import java.nio.file.Files;
import java.nio.file.Path;
import java.util.ArrayList;
import java.util.List;
import java.util.Set;
import java.util.TreeSet;
import java.util.regex.Matcher;
import java.util.regex.Pattern;

/** Checks under sentences of the document: each is quoted word by word, and must stand where it is said to stand. */
final class Sentences {
    private static final Path DOCUMENT = Path.of("../shared/DOC.md");
    private static final Path TESTS = Path.of("src/test/java");
    private static final int PROMISES = 29;
    private static final String LITERAL = "\"((?:[^\"\\\\]|\\\\.)*)\"";
    private static final Pattern QUOTE = Pattern.compile(
            "the\\.of(?:Promise)?\\((?:\\d+,\\s*)?(" + LITERAL + "(?:\\s*\\+\\s*" + LITERAL + ")*)");

    private final Checks checks = new Checks();
    private final Set<Integer> promises = new TreeSet<>();
    private final String document;
    private String sentence = "";

    Sentences() {
        document = oneLine(read(DOCUMENT));
    }

    private static String read(Path path) {
        try {
            return Files.readString(path);
        } catch (IOException e) {
            throw new IllegalStateException("it is not at " + path, e);
        }
    }

    private static String oneLine(String text) {
        return text.replaceAll("\\s+", " ").strip();
    }

    /** What is due from here on is due by this sentence of the document. */
    void of(String words) {
        begin(words, document);
    }

    /** What is due from here on is due by this sentence of a promise. */
    void ofPromise(int number, String words) {
        promises.add(number);
        begin(words, promise(number));
    }

    private void begin(String words, String within) {
        sentence = words;
        checks.dueTrue("the document says: " + words, within.contains(words));
    }

    private String promise(int number) {
        int from = document.indexOf("## Promise " + number + ":");
        int to = document.indexOf(" ## ", from + 1);
        return from < 0 ? "" : document.substring(from, to < 0 ? document.length() : to);
    }

    void due(String call, long got, long want) {
        checks.due("\"" + sentence + "\": " + call, got, want);
    }

    void dueTrue(String what, boolean holds) {
        due(what, holds ? 1 : 0, 1);
    }

    void dueEachPromise() {
        checks.due("promises with sentences tested", promises.size(), PROMISES);
    }

    /** Each sentence of the document is quoted by one of these tests, whole or part by part. */
    void dueAllQuoted(List<String> tests) {
        List<String> quotes = new ArrayList<>();
        for (String test : tests) {
            Matcher found = QUOTE.matcher(read(TESTS.resolve(test + ".java")));
            while (found.find()) quotes.add(joined(found.group(1)));
        }
        int sentences = 0;
        for (String line : toldLines()) {
            String left = withoutQuotes(line, quotes);
            checks.dueTrue("quoted by a test: " + left + " (of: " + line + ")", !left.matches(".*[A-Za-z0-9].*"));
            sentences++;
        }
        checks.dueTrue("the document has lines for each promise", sentences > PROMISES);
    }

    private static String joined(String literals) {
        StringBuilder whole = new StringBuilder();
        Matcher one = Pattern.compile(LITERAL).matcher(literals);
        while (one.find()) whole.append(one.group(1));
        return whole.toString();
    }

    /** The lines that promise something; the face, and what is told of the interface, are read by FaceTest. */
    private static List<String> toldLines() {
        String told = read(DOCUMENT).replaceAll("(?s)```java.*?```", "").replaceAll("(?s)## Not promised.*", "");
        List<String> lines = new ArrayList<>();
        for (String line : told.split("\n")) {
            String words = oneLine(line).replaceAll("^`[^`]*`: ", "").replaceAll("======== \\d ", "");
            boolean promises = !words.matches("#.*|```.*|Ahead of the calls .*|");
            if (promises) lines.add(words);
        }
        return lines;
    }

    private static String withoutQuotes(String line, List<String> quotes) {
        boolean[] quoted = new boolean[line.length()];
        for (String quote : quotes) {
            int at = line.indexOf(quote);
            for (int i = at; at >= 0 && i < at + quote.length(); i++) quoted[i] = true;
        }
        StringBuilder left = new StringBuilder();
        for (int i = 0; i < line.length(); i++) left.append(quoted[i] ? ' ' : line.charAt(i));
        return oneLine(left.toString());
    }

    void end() {
        checks.end();
    }
}
