import java.lang.reflect.Constructor;
import java.lang.reflect.Field;
import java.lang.reflect.Method;
import java.lang.reflect.Modifier;
import java.nio.file.Files;
import java.nio.file.Path;
import java.util.Arrays;
import java.util.HashSet;
import java.util.Set;
import java.util.TreeSet;
import java.util.regex.Matcher;
import java.util.regex.Pattern;

/** The public face is the document's, and the source keeps to LANGUAGE.md where that can be seen by a look. */
public final class FaceTest {
    private static final String[] METHODS = {
        "int write(int)", "int wipe()", "int fault(int)", "int list()", "int about(int)", "int part(int,int)",
        "int sign(int,int)", "int order(int)", "int made(int,int)", "int step(int,int,int)", "int apart(int,int)",
        "int form(int,int)", "int swap(int,int)", "int resign(int,int,int)", "int tell(int,int,int)", "int undo()",
        "int cross(int,int)", "int best(int)", "int judge(int,long)", "int share(int,boolean)",
        "int see(int,int,int,int)", "int unsee()", "int which(int)", "int fails(int,int,int,boolean)",
        "long seed(long)", "int drawn(int)", "int keep(int)", "int again(int)"};
    private static final String[] CONSTANTS = {"BAD=-2", "FULL=-4", "LATE=-3", "NONE=-9", "UNKNOWN=-1"};
    private static final Checks checks = new Checks();

    public static void main(String[] args) throws Exception {
        face();
        nested();
        source(Files.readString(Path.of(args.length > 0 ? args[0] : "src/main/java/WordKin.java")));
        checks.end();
    }

    private static void face() throws Exception {
        checks.dueTrue("the class is public and final",
                Modifier.isPublic(WordKin.class.getModifiers()) && Modifier.isFinal(WordKin.class.getModifiers()));
        Set<String> methods = new TreeSet<>();
        for (Method m : WordKin.class.getDeclaredMethods()) {
            if (!Modifier.isPrivate(m.getModifiers())) {
                StringBuilder b = new StringBuilder(m.getReturnType() + " " + m.getName() + "(");
                for (Class<?> p : m.getParameterTypes()) b.append(b.charAt(b.length() - 1) == '(' ? "" : ",").append(p);
                methods.add(b.append(")").toString());
                checks.dueTrue(m + " is public and not static",
                        Modifier.isPublic(m.getModifiers()) && !Modifier.isStatic(m.getModifiers()));
            }
        }
        checks.dueTrue("the methods " + methods, methods.equals(new TreeSet<>(Arrays.asList(METHODS))));
        Set<String> constants = new TreeSet<>();
        for (Field f : WordKin.class.getDeclaredFields()) {
            if (!Modifier.isPrivate(f.getModifiers())) constants.add(f.getName() + "=" + f.get(null));
            if (Modifier.isStatic(f.getModifiers())) checks.dueTrue(f + " is final", Modifier.isFinal(f.getModifiers()));
        }
        checks.dueTrue("the constants " + constants, constants.equals(new TreeSet<>(Arrays.asList(CONSTANTS))));
        Constructor<?>[] constructors = WordKin.class.getDeclaredConstructors();
        checks.due("constructors", constructors.length, 1);
        checks.dueTrue("the constructor", Modifier.isPublic(constructors[0].getModifiers())
                && constructors[0].getParameterCount() == 0);
    }

    private static void nested() {
        Set<String> faceNames = new HashSet<>();
        for (String m : METHODS) faceNames.add(m.replaceAll("^\\w+ (\\w+)\\(.*$", "$1"));
        for (Method m : WordKin.class.getDeclaredMethods()) {
            if (Modifier.isPrivate(m.getModifiers())) dueOtherName(m, faceNames);
            checks.dueTrue(m + " has seven parameters at most", m.getParameterCount() <= 7);
        }
        Class<?>[] inside = WordKin.class.getDeclaredClasses();
        checks.dueTrue("twelve classes at most", inside.length < 12);
        for (Class<?> c : inside) {
            checks.dueTrue(c + " is static", Modifier.isStatic(c.getModifiers()));
            checks.dueTrue(c + " is not public", !Modifier.isPublic(c.getModifiers()));
            for (Method m : c.getDeclaredMethods()) dueOtherName(m, faceNames);
        }
    }

    private static void dueOtherName(Method m, Set<String> faceNames) {
        checks.dueTrue(m + " has a name of its own", !faceNames.contains(m.getName()));
    }

    private static void source(String whole) {
        String code = whole.replaceAll("(?s)/\\*.*?\\*/", "").replaceAll("//[^\n]*", "").replaceAll("'.'", "0");
        String[] words = {"throw", "throws", "try", "catch", "finally", "synchronized", "assert", "import", "package",
            "transient", "volatile", "native", "var", "double", "float", "Object", "Thread", "System.out", "Random"};
        for (String word : words) {
            checks.dueTrue("no " + word, !Pattern.compile("\\b" + Pattern.quote(word) + "\\b").matcher(code).find());
        }
        checks.dueTrue("no lambda", !code.contains("->"));
        checks.dueTrue("no method reference", !code.contains("::"));
        checks.dueTrue("no static block", !Pattern.compile("static\\s*\\{").matcher(code).find());
        Matcher dot = Pattern.compile("\\b(System|Math|Integer|Long|Arrays)\\.(\\w+)").matcher(code);
        while (dot.find()) {
            String used = dot.group(2);
            checks.dueTrue(dot.group() + " is of the library that may be used",
                    used.matches("arraycopy|abs|max|min|bitCount|compare|floorDiv|floorMod|copyOf|copyOfRange|fill"));
        }
        // Calls make nothing, so the room holds however many calls there are.
        Matcher made = Pattern.compile("\\bnew\\b").matcher(code);
        int news = 0;
        while (made.find()) news++;
        Matcher inFields = Pattern.compile("private final \\S+ \\w+ = new |\\b(text|stock|ways|trial|kept|isKept|"
                + "doings|sightings|kept\\[slot\\]) = new ").matcher(code);
        int expected = 0;
        while (inFields.find()) expected++;
        checks.due("objects are made in fields and the constructor alone", news, expected);
        methodsAreShort(code);
    }

    private static void methodsAreShort(String code) {
        Matcher head = Pattern.compile("\n( +)(?:\\w+ )*\\w+(?:\\[\\])? \\w+\\([^)\n]*\\) \\{\n").matcher(code);
        int found = 0;
        while (head.find()) {
            int end = code.indexOf("\n" + head.group(1) + "}\n", head.start() + 1);
            String body = code.substring(head.start(), end < 0 ? code.length() : end);
            checks.dueTrue("short: " + head.group().trim(), body.split("\n").length <= 60);
            found++;
        }
        checks.dueTrue("methods were found", found > 28);
    }
}
