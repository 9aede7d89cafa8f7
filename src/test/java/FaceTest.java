import java.lang.reflect.Constructor;
import java.lang.reflect.Field;
import java.lang.reflect.Method;
import java.lang.reflect.Modifier;
import java.nio.file.Files;
import java.nio.file.Path;
import java.util.ArrayList;
import java.util.List;
import java.util.Map;
import java.util.Set;
import java.util.TreeMap;
import java.util.TreeSet;
import java.util.regex.Matcher;
import java.util.regex.Pattern;

/** The public face is the one that the document writes, and the source keeps to LANGUAGE.md where a look can tell. */
public final class FaceTest {
    private static final Path DOCUMENT = Path.of("../shared/DOC.md");
    private static final Checks checks = new Checks();

    public static void main(String[] args) throws Exception {
        String document = Files.readString(DOCUMENT);
        String source = Files.readString(Path.of(args.length > 0 ? args[0] : "src/main/java/WordKin.java"));
        Map<String, String> methods = methodsTold(document);
        checks.due("methods of the document's face", methods.size(), 28);
        methodsAreTheFace(new TreeSet<>(methods.values()));
        constantsAreTheFace(constantsTold(document));
        constructorIsTheFace(document);
        promisesAreOfTheFace(document, methods);
        nested(methods.keySet());
        groupsAreSaidAheadOfCalls(document, source);
        source(source);
        checks.end();
    }

    private static String faceTold(String document) {
        Matcher face = Pattern.compile("(?s)## The public face\\s+```java(.*?)```").matcher(document);
        return face.find() ? face.group(1) : "";
    }

    /** "int part(int,int)" of "public int part(int kind, int i);", by the method's name. */
    private static Map<String, String> methodsTold(String document) {
        Map<String, String> told = new TreeMap<>();
        Matcher one = Pattern.compile("public (\\w+) (\\w+)\\(([^)]*)\\);").matcher(faceTold(document));
        while (one.find()) told.put(one.group(2), withoutNames(one.group(1), one.group(2), one.group(3)));
        return told;
    }

    private static String withoutNames(String type, String name, String parameters) {
        return type + " " + name + "(" + parameters.replaceAll("(\\w+) \\w+", "$1").replace(" ", "") + ")";
    }

    private static Set<String> constantsTold(String document) {
        Set<String> told = new TreeSet<>();
        Matcher line = Pattern.compile("public static final int ([^;]*);").matcher(faceTold(document));
        while (line.find()) {
            for (String one : line.group(1).split(",")) told.add("int " + one.replace(" ", ""));
        }
        return told;
    }

    private static void methodsAreTheFace(Set<String> told) {
        checks.dueTrue("the class is public and final",
                Modifier.isPublic(WordKin.class.getModifiers()) && Modifier.isFinal(WordKin.class.getModifiers()));
        Set<String> methods = new TreeSet<>();
        for (Method m : WordKin.class.getDeclaredMethods()) {
            if (!Modifier.isPrivate(m.getModifiers())) {
                StringBuilder b = new StringBuilder(m.getReturnType() + " " + m.getName() + "(");
                for (Class<?> p : m.getParameterTypes()) b.append(b.charAt(b.length() - 1) == '(' ? "" : ",").append(p);
                methods.add(b.append(")").toString());
                checks.dueTrue(m + " is public and not static",
                        Modifier.isPublic(m.getModifiers()) && !Modifier.isStatic(m.getModifiers()));
                checks.due(m + " throws nothing", m.getExceptionTypes().length, 0);
            }
        }
        checks.dueTrue("the methods " + methods + " are " + told, methods.equals(told));
    }

    private static void constantsAreTheFace(Set<String> told) throws Exception {
        Set<String> constants = new TreeSet<>();
        for (Field f : WordKin.class.getDeclaredFields()) {
            if (!Modifier.isPrivate(f.getModifiers())) {
                constants.add(f.getType() + " " + f.getName() + "=" + f.get(null));
                checks.dueTrue(f + " is public", Modifier.isPublic(f.getModifiers()));
            }
            if (Modifier.isStatic(f.getModifiers())) {
                checks.dueTrue(f + " is final", Modifier.isFinal(f.getModifiers()));
            }
        }
        checks.dueTrue("the constants " + constants + " are " + told, constants.equals(told));
    }

    private static void constructorIsTheFace(String document) {
        checks.dueTrue("the document's constructor", faceTold(document).contains("public WordKin();"));
        Constructor<?>[] constructors = WordKin.class.getDeclaredConstructors();
        checks.due("constructors", constructors.length, 1);
        checks.dueTrue("the constructor", Modifier.isPublic(constructors[0].getModifiers())
                && constructors[0].getParameterCount() == 0);
        checks.dueTrue("it extends nothing", WordKin.class.getSuperclass() == Object.class);
        checks.due("it implements nothing", WordKin.class.getInterfaces().length, 0);
    }

    /** "`int made(int root, int ending)`: .." ahead of a promise is of the face. */
    private static void promisesAreOfTheFace(String document, Map<String, String> methods) {
        Set<String> promised = new TreeSet<>();
        Matcher one = Pattern.compile("(?m)^`(\\w+) (\\w+)\\(([^)]*)\\)`: ").matcher(document);
        while (one.find()) promised.add(withoutNames(one.group(1), one.group(2), one.group(3)));
        checks.dueTrue("each method has a promise", promised.equals(new TreeSet<>(methods.values())));
    }

    /** "Ahead of the calls .. the interface says: ---- words.": the source says so too, ahead of the same calls. */
    private static void groupsAreSaidAheadOfCalls(String document, String source) {
        List<String> told = new ArrayList<>();
        Matcher group = Pattern.compile("Ahead of the calls (.*) the interface says: (---- .*)\\.").matcher(document);
        while (group.find()) {
            told.add(group.group(2));
            told.addAll(List.of(group.group(1).replace("`", "").split(", ")));
        }
        List<String> written = new ArrayList<>();
        Matcher one = Pattern.compile("\n    // (---- .*)\n|\n    public \\w+ (\\w+)\\(").matcher(source);
        while (one.find()) written.add(one.group(1) != null ? one.group(1) : one.group(2));
        checks.due("seven groups of 28 calls", told.size(), 7 + 28);
        checks.dueTrue("the groups " + written + " begin as " + told,
                written.size() >= told.size() && written.subList(0, told.size()).equals(told));
    }

    private static void nested(Set<String> faceNames) {
        for (Method m : WordKin.class.getDeclaredMethods()) {
            if (Modifier.isPrivate(m.getModifiers())) dueOtherName(m, faceNames);
            checks.dueTrue(m + " has seven parameters at most", m.getParameterCount() <= 7);
        }
        Class<?>[] inside = WordKin.class.getDeclaredClasses();
        checks.dueTrue("twelve classes at most", inside.length < 12);
        for (Class<?> c : inside) {
            checks.dueTrue(c + " is static", Modifier.isStatic(c.getModifiers()));
            checks.dueTrue(c + " is not public", !Modifier.isPublic(c.getModifiers()));
            for (Method m : c.getDeclaredMethods()) {
                dueOtherName(m, faceNames);
                checks.dueTrue(m + " has seven parameters at most", m.getParameterCount() <= 7);
            }
            dueFewFields(c);
        }
        dueFewFields(WordKin.class);
    }

    private static void dueFewFields(Class<?> c) {
        int fields = 0;
        for (Field f : c.getDeclaredFields()) {
            if (!Modifier.isStatic(f.getModifiers())) fields++;
        }
        checks.dueTrue(c + " has twenty fields at most", fields <= 20);
    }

    private static void dueOtherName(Method m, Set<String> faceNames) {
        checks.dueTrue(m + " has a name of its own", !faceNames.contains(m.getName()));
    }

    private static void source(String whole) {
        String code = whole.replaceAll("(?s)/\\*.*?\\*/", "").replaceAll("//[^\n]*", "").replaceAll("'.'", "0");
        String[] words = {"throw", "throws", "try", "catch", "finally", "synchronized", "assert", "import", "package",
            "transient", "volatile", "native", "var", "double", "float", "Object", "Thread", "System.out", "Random"};
        for (String word : words) {
            checks.dueTrue("no " + word, !Pattern.compile("\\b" + Pattern.quote(word) + "\\b").matcher(code).find());
        }
        checks.dueTrue("no lambda", !code.contains("->"));
        checks.dueTrue("no method reference", !code.contains("::"));
        checks.dueTrue("no static block", !Pattern.compile("static\\s*\\{").matcher(code).find());
        Matcher dot = Pattern.compile("\\b(System|Math|Integer|Long|Arrays)\\.(\\w+)").matcher(code);
        while (dot.find()) {
            String used = dot.group(2);
            checks.dueTrue(dot.group() + " is of the library that may be used",
                    used.matches("arraycopy|abs|max|min|bitCount|compare|floorDiv|floorMod|copyOf|copyOfRange|fill"));
        }
        // Calls make nothing, so the room holds however many calls there are.
        Matcher made = Pattern.compile("\\bnew\\b").matcher(code);
        int news = 0;
        while (made.find()) news++;
        Matcher inFields = Pattern.compile("private final \\S+ \\w+ = new |\\b(text|stock|ways|trial|kept|isKept|"
                + "doings|sightings|kept\\[slot\\]) = new ").matcher(code);
        int expected = 0;
        while (inFields.find()) expected++;
        checks.due("objects are made in fields and the constructor alone", news, expected);
        methodsAreShort(code);
    }

    private static void methodsAreShort(String code) {
        Matcher head = Pattern.compile("\n( +)(?:\\w+ )*\\w+(?:\\[\\])? \\w+\\([^)\n]*\\) \\{\n").matcher(code);
        int found = 0;
        while (head.find()) {
            int end = code.indexOf("\n" + head.group(1) + "}\n", head.start() + 1);
            String body = code.substring(head.start(), end < 0 ? code.length() : end);
            checks.dueTrue("short: " + head.group().trim(), body.split("\n").length <= 60);
            found++;
        }
        checks.dueTrue("methods were found", found > 28);
    }
}
