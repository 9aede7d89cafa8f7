import java.io.IOException;
import java.net.URL;
import java.net.URLClassLoader;
import java.nio.file.Files;
import java.nio.file.Path;
import java.util.ArrayList;
import java.util.List;
import java.util.Set;
import java.util.TreeSet;
import java.util.regex.Matcher;
import java.util.regex.Pattern;
import java.util.stream.Stream;
import javax.tools.JavaCompiler;
import javax.tools.ToolProvider;

/** README.md's run of calls compiles and answers as it says, and its way to run the tests is the one there is. */
public final class ReadmeTest {
    private static final Path README = Path.of("README.md");
    private static final Path SCRIPT = Path.of(".ci/run");
    private static final Path TESTS = Path.of("src/test/java");
    /** "kin.made(0, 1);   // 2: b" tells an answer, by a number or by a constant's name. */
    private static final Pattern TOLD = Pattern.compile("kin\\.(.*); +// (-?\\d+|[A-Z]+)(?:: .*)?");
    private static final Checks checks = new Checks();

    public static void main(String[] args) throws Exception {
        String readme = Files.readString(README);
        List<String> example = linesOf(readme, "java");
        everyAnswerIsTold(example);
        everyCallIsShown(example);
        answersAreDue(example);
        wayToRunTheTests(readme);
        testsAreNamed(readme);
        checks.end();
    }

    private static List<String> linesOf(String readme, String kind) {
        List<String> lines = new ArrayList<>();
        Matcher block = Pattern.compile("(?s)```" + kind + "\n(.*?)```").matcher(readme);
        while (block.find()) lines.addAll(block.group(1).lines().toList());
        return lines;
    }

    private static void everyAnswerIsTold(List<String> example) {
        for (String line : example) {
            checks.dueTrue("tells an answer: " + line, !line.startsWith("kin.") || TOLD.matcher(line).matches());
        }
    }

    private static void everyCallIsShown(List<String> example) {
        Set<String> shown = new TreeSet<>();
        for (String line : example) {
            Matcher call = Pattern.compile("kin\\.(\\w+)\\(").matcher(line);
            while (call.find()) shown.add(call.group(1));
        }
        Set<String> calls = new TreeSet<>();
        for (var method : WordKin.class.getMethods()) {
            if (method.getDeclaringClass() == WordKin.class) calls.add(method.getName());
        }
        checks.dueTrue("the calls shown " + shown + " are " + calls, shown.equals(calls));
    }

    /** The example's lines are compiled as they are, but that each told answer is asked for. */
    private static void answersAreDue(List<String> example) throws Exception {
        StringBuilder code = new StringBuilder("public final class Example {\npublic static void run() {\n");
        for (String line : example) {
            Matcher told = TOLD.matcher(line);
            code.append(told.matches() ? asked(told.group(1), told.group(2)) : line).append("\n");
        }
        code.append("}\n}\n");
        Path place = Files.createTempDirectory("readme");
        try {
            runExample(place, code.toString());
        } finally {
            emptyAndRemove(place);
        }
    }

    private static String asked(String call, String answer) {
        String due = answer.matches("[A-Z]+") ? "WordKin." + answer : answer + "L";
        return "ReadmeTest.due(\"" + call + "\", kin." + call + ", " + due + ");";
    }

    /** For the compiled example, which comes from elsewhere and can call only what is public. */
    public static void due(String call, long got, long want) {
        checks.due("README.md: kin." + call, got, want);
    }

    private static void runExample(Path place, String code) throws Exception {
        Path file = Files.writeString(place.resolve("Example.java"), code);
        JavaCompiler compiler = ToolProvider.getSystemJavaCompiler();
        checks.dueTrue("there is a compiler", compiler != null);
        if (compiler == null) return;
        int failed = compiler.run(null, null, null, "-cp", System.getProperty("java.class.path"),
                "-d", place.toString(), file.toString());
        checks.due("the example compiles", failed, 0);
        if (failed != 0) return;
        try (URLClassLoader loader = new URLClassLoader(new URL[] {place.toUri().toURL()})) {
            loader.loadClass("Example").getMethod("run").invoke(null);
        }
    }

    private static void emptyAndRemove(Path place) throws IOException {
        try (Stream<Path> files = Files.list(place)) {
            for (Path file : files.toList()) Files.delete(file);
        }
        Files.delete(place);
    }

    private static void wayToRunTheTests(String readme) throws IOException {
        checks.dueTrue("one way is told: " + SCRIPT, linesOf(readme, "sh").equals(List.of(SCRIPT.toString())));
        String script = Files.readString(SCRIPT);
        checks.dueTrue("it can be run as told", script.startsWith("#!/bin/bash\n"));
        String[] ways = {"\"$main\" src/test/java/*.java", "in src/test/java/*Test.java", "in ../shared/tests/*.java"};
        for (String way : ways) checks.dueTrue("it goes this way: " + way, script.contains(way));
    }

    private static void testsAreNamed(String readme) throws IOException {
        Set<String> named = new TreeSet<>();
        Matcher one = Pattern.compile("(?m)^- `src/test/java/(\\w+Test\\.java)`: ").matcher(readme);
        while (one.find()) named.add(one.group(1));
        Set<String> there = new TreeSet<>();
        try (Stream<Path> files = Files.list(TESTS)) {
            for (Path file : files.toList()) {
                String name = file.getFileName().toString();
                if (name.endsWith("Test.java")) there.add(name);
            }
        }
        checks.dueTrue("the tests named " + named + " are " + there, named.equals(there));
    }
}
