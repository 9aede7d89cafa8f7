import java.math.BigInteger;
import java.util.ArrayList;
import java.util.HashSet;
import java.util.List;
import java.util.Map;
import java.util.Random;
import java.util.Set;
import java.util.TreeMap;
import java.util.regex.Matcher;
import java.util.regex.Pattern;

/**
 * Random runs of calls, answered by WordKin and by a model that goes other ways throughout:
 * words as texts, changes and lists as regular expressions, all orders written out, fractions of
 * big integers, doings undone by whole snapshots.
 */
public final class ModelTest {
    private static final int RUNS = 1500;
    private static final int CALLS = 512;
    /** A text of two lists is written, with a call before it and three behind. */
    private static final int MOST_CALLS_OF_A_STEP = 102;

    public static void main(String[] args) {
        Checks checks = new Checks();
        for (int run = 0; run < RUNS && !checks.hasWrong(); run++) {
            new Run(run, checks).go();
        }
        checks.end();
    }

    private static final class Run {
        private final int number;
        private final Random random;
        private final Checks checks;
        private final WordKin kin = new WordKin();
        private final Model model = new Model();
        private int calls = 0;

        Run(int number, Checks checks) {
            this.number = number;
            this.random = new Random(number);
            this.checks = checks;
        }

        void go() {
            writeText(randomList());
            listIt();
            while (calls <= CALLS - MOST_CALLS_OF_A_STEP) {
                if (random.nextInt(60) == 0) {
                    due("wipe()", kin.wipe(), model.wipe());
                    writeText(random.nextInt(3) == 0 ? randomNoise() : randomList());
                    due("fault(0)", kin.fault(0), model.fault(0));
                    due("fault(1)", kin.fault(1), model.fault(1));
                    listIt();
                } else {
                    randomCall();
                }
            }
        }

        private void due(String call, long got, long want) {
            calls++;
            checks.due("run " + number + ", call " + calls + ": " + call, got, want);
        }

        private void listIt() {
            due("list()", kin.list(), model.list());
        }

        private void writeText(String text) {
            for (char c : text.toCharArray()) {
                due("write(" + (int) c + ")", kin.write(c), model.write(c));
            }
        }

        private String letters(int most) {
            StringBuilder b = new StringBuilder();
            int many = 1 + random.nextInt(most);
            int kinds = 2 + random.nextInt(4);
            for (int i = 0; i < many; i++) {
                b.append((char) ('a' + random.nextInt(kinds)));
            }
            return b.toString();
        }

        private String randomList() {
            List<String> parts = new ArrayList<>();
            for (int i = random.nextInt(5); i > 0; i--) parts.add("R" + letters(4));
            for (int i = random.nextInt(4); i > 0; i--) parts.add("E" + letters(2));
            for (int i = random.nextInt(5); i > 0; i--) {
                String two = letters(1) + (random.nextInt(3) == 0 ? "-" : letters(1));
                parts.add("C" + two + context() + context());
            }
            java.util.Collections.shuffle(parts, random);
            return String.join("", parts);
        }

        private String context() {
            int k = random.nextInt(5);
            return k < 2 ? "*" : k == 2 ? "." : letters(1);
        }

        /** A list with one letter put in, taken out or made another, or cut off. */
        private String randomNoise() {
            String some = "RECabcde-*.?f`SDBF ";
            StringBuilder b = new StringBuilder(randomList());
            char c = some.charAt(random.nextInt(some.length()));
            int at = random.nextInt(b.length() + 1);
            switch (random.nextInt(5)) {
                case 0: b.insert(at, c); break;
                case 1: if (at < b.length()) b.deleteCharAt(at); break;
                case 2: if (at < b.length()) b.setCharAt(at, c); break;
                case 3: b.setLength(at); break;
                default: b.append(randomList()); break;
            }
            return b.toString();
        }

        private int upTo(int most) {
            int k = random.nextInt(40);
            if (k == 0) return -1;
            if (k == 1) return random.nextBoolean() ? Integer.MAX_VALUE : Integer.MIN_VALUE;
            return random.nextInt(most + 2);
        }

        private int word() {
            switch (random.nextInt(8)) {
                case 0: return 0;
                case 1: return random.nextInt(1000000) - 100;
                case 2: return random.nextInt();
                case 3: return -9;
                case 4: return Model.figures(letters(6));
                default: {
                    int made = kin.made(random.nextInt(4), random.nextInt(3));
                    calls++;
                    return made < 0 ? 0 : made;
                }
            }
        }

        private void randomCall() {
            int a = upTo(4);
            int b = upTo(3);
            int c = upTo(4);
            boolean upper = random.nextBoolean();
            switch (random.nextInt(30)) {
                case 0: due("write(" + a * 80 + ")", kin.write(a * 80), model.write(a * 80)); break;
                case 1: due("fault(" + c + ")", kin.fault(c), model.fault(c)); break;
                case 2: case 3: {
                    int what = upTo(10);
                    due("about(" + what + ")", kin.about(what), model.about(what));
                    break;
                }
                case 4: due("part(" + b + ", " + a + ")", kin.part(b, a), model.part(b, a)); break;
                case 5: due("sign(" + a + ", " + c + ")", kin.sign(a, c), model.sign(a, c)); break;
                case 6: due("order(" + a + ")", kin.order(a), model.order(a)); break;
                case 7: due("made(" + a + ", " + b + ")", kin.made(a, b), model.made(a, b)); break;
                case 8: due("step(" + a + ", " + b + ", " + c + ")", kin.step(a, b, c), model.step(a, b, c)); break;
                case 9: {
                    int w = word();
                    int what = upTo(1);
                    due("apart(" + w + ", " + what + ")", kin.apart(w, what), model.apart(w, what));
                    break;
                }
                case 10: due("form(" + a + ", " + b + ")", kin.form(a, b), model.form(a, b)); break;
                case 11: case 12: due("swap(" + a + ", " + c + ")", kin.swap(a, c), model.swap(a, c)); break;
                case 13: case 14: {
                    int v = upTo(7);
                    due("resign(" + a + ", " + c + ", " + v + ")", kin.resign(a, c, v), model.resign(a, c, v));
                    break;
                }
                case 15: case 16: {
                    int w = word();
                    due("tell(" + a + ", " + b + ", " + w + ")", kin.tell(a, b, w), model.tell(a, b, w));
                    break;
                }
                case 17: {
                    for (int i = 1 + random.nextInt(4); i > 0; i--) due("undo()", kin.undo(), model.undo());
                    break;
                }
                case 18: due("cross(" + a + ", " + c + ")", kin.cross(a, c), model.cross(a, c)); break;
                case 19: due("best(" + b + ")", kin.best(b), model.best(b)); break;
                case 20: case 21: judge(); break;
                case 22: due("share(" + a + ", " + upper + ")", kin.share(a, upper), model.share(a, upper)); break;
                case 23: {
                    int v = upTo(5);
                    int was = upTo(1);
                    due("see(" + b + ", " + c + ", " + v + ", " + was + ")",
                            kin.see(b, c, v, was), model.see(b, c, v, was));
                    break;
                }
                case 24: {
                    if (random.nextInt(3) == 0) due("unsee()", kin.unsee(), model.unsee());
                    else due("which(" + b + ")", kin.which(b), model.which(b));
                    break;
                }
                case 25: {
                    int x = upTo(10);
                    due("fails(" + a + ", " + b + ", " + x + ", " + upper + ")",
                            kin.fails(a, b, x, upper), model.fails(a, b, x, upper));
                    break;
                }
                case 26: {
                    long v = random.nextLong();
                    due("seed(" + v + ")", kin.seed(v), model.seed(v));
                    break;
                }
                case 27: {
                    int m = upTo(20);
                    due("drawn(" + m + ")", kin.drawn(m), model.drawn(m));
                    break;
                }
                case 28: due("keep(" + b + ")", kin.keep(b), model.keep(b)); break;
                default: {
                    if (random.nextInt(3) == 0) due("again(" + b + ")", kin.again(b), model.again(b));
                    break;
                }
            }
        }

        private void judge() {
            int n = random.nextInt(20) == 0 ? upTo(4) : 1 + random.nextInt(4);
            long row = 0;
            for (int i = 0; i < n && i < 5; i++) row = row * 10000 + oneTold();
            int odd = random.nextInt(40);
            if (odd == 0) row = -row;
            if (odd == 1) row = random.nextLong();
            due("judge(" + n + ", " + row + ")", kin.judge(n, row), model.judge(n, row));
        }

        private int oneTold() {
            if (random.nextInt(12) == 0) return random.nextInt(10000);
            int two = random.nextInt(4) * 10 + random.nextInt(4);
            switch (random.nextInt(6)) {
                case 0: return 1000 + two;
                case 1: return 2000 + 10 * two + random.nextInt(9);
                case 2: return 3000 + 10 * two % 1000 + random.nextInt(7);
                case 3: return 4000 + two;
                case 4: return 5000 + random.nextInt(5) * 100;
                default: return 6000 + random.nextInt(7);
            }
        }
    }

    private static final class Model {
        private static final Pattern LIST =
                Pattern.compile("(?:R[a-e]{1,4}|E[a-e]{1,2}|C[a-e][a-e\\-][a-e*.][a-e*.])*");
        private static final Pattern PART = Pattern.compile("R[a-e]+|E[a-e]+|C[a-e\\-*.]{4}");
        private static final String SIGNS = "-abcde*.";

        private String text = "";
        private final List<String> roots = new ArrayList<>();
        private final List<String> endings = new ArrayList<>();
        private State now = new State();
        private final List<State> before = new ArrayList<>();
        private final State[] slots = new State[2];
        private final List<int[]> seen = new ArrayList<>();
        private BigInteger seed = BigInteger.ZERO;

        /** What slots keep. */
        private static final class State {
            private final List<String> changes = new ArrayList<>();
            private final List<Integer> order = new ArrayList<>();
            private final Map<Integer, String> forms = new TreeMap<>();

            State copy() {
                State other = new State();
                other.changes.addAll(changes);
                other.order.addAll(order);
                other.forms.putAll(forms);
                return other;
            }

            String changed(int change, String word) {
                String c = changes.get(change);
                String ahead = c.charAt(2) == '*' ? "" : c.charAt(2) == '.' ? "^" : "(?<=" + c.charAt(2) + ")";
                String behind = c.charAt(3) == '*' ? "" : c.charAt(3) == '.' ? "$" : "(?=" + c.charAt(3) + ")";
                return word.replaceAll(ahead + c.charAt(0) + behind, c.charAt(1) == '-' ? "" : "" + c.charAt(1));
            }

            String all(String word) {
                for (int change : order) word = changed(change, word);
                return word;
            }

            String some(String word, Set<Integer> only) {
                for (int change : order) if (only.contains(change)) word = changed(change, word);
                return word;
            }
        }

        static int figures(String word) {
            int n = 0;
            for (char c : word.toCharArray()) n = 10 * n + c - 'a' + 1;
            return n;
        }

        /** The word of figures, or null: they are of none. */
        private static String word(int figures) {
            if (figures == 0) return "";
            String s = Integer.toString(figures);
            if (!s.matches("[1-5]{1,6}")) return null;
            StringBuilder b = new StringBuilder();
            for (char c : s.toCharArray()) b.append((char) (c - '1' + 'a'));
            return b.toString();
        }

        private static boolean in(int i, List<?> list) {
            return i >= 0 && i < list.size();
        }

        private boolean pair(int root, int ending) {
            return in(root, roots) && in(ending, endings);
        }

        private List<String> bare() {
            List<String> words = new ArrayList<>();
            for (String r : roots) for (String e : endings) words.add(r + e);
            return words;
        }

        int write(int letter) {
            if (letter < 0 || letter > 255) return -2;
            if (text.length() == 60) return -4;
            text += (char) letter;
            return text.length();
        }

        int wipe() {
            int was = text.length();
            text = "";
            return was;
        }

        private static long count(String s, char c) {
            return s.chars().filter(x -> x == c).count();
        }

        private static boolean canGoOn(String s) {
            Matcher m = LIST.matcher(s);
            boolean may = m.matches() || m.hitEnd();
            return may && count(s, 'R') <= 4 && count(s, 'E') <= 3 && count(s, 'C') <= 4;
        }

        int fault(int what) {
            if (what != 0 && what != 1) return -2;
            int place = 0;
            while (place < text.length() && canGoOn(text.substring(0, place + 1))) place++;
            String good = text.substring(0, place);
            boolean whole = LIST.matcher(good).matches();
            if (place == text.length() && whole) return -9;
            if (what == 0) return place;
            int parts = (int) (count(good, 'R') + count(good, 'E') + count(good, 'C'));
            if (place == text.length() || !whole) return parts - 1;
            boolean letter = "abcde".indexOf(text.charAt(place)) >= 0;
            boolean behindLetters = good.matches(".*[RE][a-e]+");
            return letter && behindLetters ? parts - 1 : parts;
        }

        int list() {
            if (fault(0) != -9) return -3;
            roots.clear();
            endings.clear();
            now = new State();
            before.clear();
            slots[0] = null;
            slots[1] = null;
            int parts = 0;
            Matcher m = PART.matcher(text);
            while (m.find()) {
                String body = m.group().substring(1);
                char kind = m.group().charAt(0);
                if (kind == 'R') roots.add(body);
                else if (kind == 'E') endings.add(body);
                else {
                    now.order.add(now.changes.size());
                    now.changes.add(body);
                }
                parts++;
            }
            return parts;
        }

        private int exceptions(State s) {
            int n = 0;
            for (Map.Entry<Integer, String> f : s.forms.entrySet()) {
                String bare = roots.get(f.getKey() / 10) + endings.get(f.getKey() % 10);
                if (!s.all(bare).equals(f.getValue())) n++;
            }
            return n;
        }

        private int unlike(State s, Set<Integer> only) {
            Set<String> words = new HashSet<>();
            for (String w : bare()) words.add(s.some(w, only));
            return words.size();
        }

        private boolean active(State s, int change) {
            for (String w : bare()) {
                for (int c : s.order) {
                    String then = s.changed(c, w);
                    if (c == change && !then.equals(w)) return true;
                    w = then;
                }
            }
            return false;
        }

        private boolean crosses(State s, int one, int other) {
            for (String w : bare()) {
                if (!s.changed(one, s.changed(other, w)).equals(s.changed(other, s.changed(one, w)))) return true;
            }
            return false;
        }

        int about(int what) {
            switch (what) {
                case 0: return roots.size();
                case 1: return endings.size();
                case 2: return now.changes.size();
                case 3: return unlike(now, new HashSet<>(now.order));
                case 4: {
                    int bits = 0;
                    for (int c : now.order) bits += active(now, c) ? 1 << c : 0;
                    return bits;
                }
                case 5: return exceptions(now);
                case 6: return now.forms.size();
                case 7: return before.size();
                case 8: return seen.size();
                case 9: return text.length();
                default: return -2;
            }
        }

        int part(int kind, int i) {
            if (kind < 0 || kind > 1) return -2;
            List<String> of = kind == 0 ? roots : endings;
            return in(i, of) ? figures(of.get(i)) : -1;
        }

        int sign(int change, int which) {
            if (!in(change, now.changes)) return -1;
            if (which < 0 || which > 3) return -2;
            return SIGNS.indexOf(now.changes.get(change).charAt(which));
        }

        int order(int place) {
            return in(place, now.order) ? now.order.get(place) : -1;
        }

        int made(int root, int ending) {
            return pair(root, ending) ? figures(now.all(roots.get(root) + endings.get(ending))) : -1;
        }

        int step(int root, int ending, int k) {
            if (!pair(root, ending)) return -1;
            if (k < 0 || k > now.order.size()) return -2;
            String w = roots.get(root) + endings.get(ending);
            for (int change : now.order.subList(0, k)) w = now.changed(change, w);
            return figures(w);
        }

        int apart(int figures, int what) {
            String w = word(figures);
            if (w == null || what < 0 || what > 1) return -2;
            List<Integer> pairs = new ArrayList<>();
            for (int r = 0; r < roots.size(); r++) {
                for (int e = 0; e < endings.size(); e++) {
                    if (now.all(roots.get(r) + endings.get(e)).equals(w)) pairs.add(10 * r + e);
                }
            }
            return what == 0 ? pairs.size() : pairs.isEmpty() ? -9 : pairs.get(0);
        }

        int form(int root, int ending) {
            if (!pair(root, ending)) return -1;
            String told = now.forms.get(10 * root + ending);
            return told == null ? -9 : figures(told);
        }

        private void doing() {
            if (before.size() == 14) before.remove(0);
            before.add(now.copy());
        }

        private static void exchange(State s, int i, int k) {
            java.util.Collections.swap(s.order, i, k);
        }

        private static boolean signFits(int which, int v) {
            String may = which == 0 ? "12345" : which == 1 ? "012345" : which == 2 || which == 3 ? "1234567" : "";
            return v >= 0 && v <= 9 && may.indexOf('0' + v) >= 0;
        }

        private static void putSign(State s, int change, int which, int v) {
            StringBuilder b = new StringBuilder(s.changes.get(change));
            b.setCharAt(which, SIGNS.charAt(v));
            s.changes.set(change, b.toString());
        }

        int swap(int i, int k) {
            if (!in(i, now.order) || !in(k, now.order)) return -1;
            doing();
            exchange(now, i, k);
            return about(3);
        }

        int resign(int change, int which, int v) {
            if (!in(change, now.changes)) return -1;
            if (!signFits(which, v)) return -2;
            int was = sign(change, which);
            doing();
            putSign(now, change, which, v);
            return was;
        }

        int tell(int root, int ending, int figures) {
            if (!pair(root, ending)) return -1;
            if (figures != -9 && word(figures) == null) return -2;
            doing();
            if (figures == -9) now.forms.remove(10 * root + ending);
            else now.forms.put(10 * root + ending, word(figures));
            return exceptions(now);
        }

        int undo() {
            if (before.isEmpty()) return -3;
            now = before.remove(before.size() - 1);
            return before.size();
        }

        int cross(int one, int other) {
            if (!in(one, now.changes) || !in(other, now.changes)) return -1;
            return crosses(now, one, other) ? 1 : 0;
        }

        private List<List<Integer>> orders() {
            List<List<Integer>> all = new ArrayList<>();
            addOrders(new ArrayList<>(), all);
            return all;
        }

        private void addOrders(List<Integer> sofar, List<List<Integer>> all) {
            if (sofar.size() == now.changes.size()) {
                all.add(new ArrayList<>(sofar));
                return;
            }
            for (int c = 0; c < now.changes.size(); c++) {
                if (!sofar.contains(c)) {
                    sofar.add(c);
                    addOrders(sofar, all);
                    sofar.remove(sofar.size() - 1);
                }
            }
        }

        int best(int what) {
            if (what < 0 || what > 2) return -2;
            Map<Integer, List<Integer>> figuresByExceptions = new TreeMap<>();
            for (List<Integer> order : orders()) {
                State s = now.copy();
                s.order.clear();
                s.order.addAll(order);
                int figures = 0;
                for (int c : order) figures = figures * 10 + c;
                figuresByExceptions.computeIfAbsent(exceptions(s), k -> new ArrayList<>()).add(figures);
            }
            Map.Entry<Integer, List<Integer>> least = figuresByExceptions.entrySet().iterator().next();
            if (what == 0) return least.getKey();
            return what == 1 ? java.util.Collections.min(least.getValue()) : least.getValue().size();
        }

        int judge(int n, long row) {
            if (n < 1 || n > 4 || row < 0) return -2;
            String s = Long.toString(row);
            if (s.length() > 4 * n) return -2;
            s = "0".repeat(4 * n - s.length()) + s;
            State trial = now.copy();
            for (int i = 0; i < n; i++) {
                String f = s.substring(4 * i, 4 * i + 4);
                if (!can(trial, f.charAt(0), f.charAt(1) - '0', f.charAt(2) - '0', f.charAt(3) - '0')) return i;
            }
            return -9;
        }

        private boolean can(State s, char kind, int a, int b, int c) {
            if (kind == '1') {
                if (a != 0 || !in(b, s.order) || !in(c, s.order)) return false;
                exchange(s, b, c);
                return true;
            }
            if (kind == '2') {
                if (!in(a, s.changes) || !signFits(b, c)) return false;
                putSign(s, a, b, c);
                return true;
            }
            if (kind == '3') return pair(a, b) && s.all(roots.get(a) + endings.get(b)).length() == c;
            if (kind == '4') return a == 0 && in(b, s.changes) && in(c, s.changes) && crosses(s, b, c);
            if (kind == '5') return in(a, s.changes) && b == 0 && c == 0 && active(s, a);
            if (kind == '6') return a == 0 && b == 0 && exceptions(s) <= c;
            return false;
        }

        private static int told(BigInteger above, BigInteger below, boolean upper) {
            BigInteger g = above.gcd(below);
            return (upper ? above : below).divide(g).intValueExact();
        }

        int share(int change, boolean upper) {
            if (!in(change, now.changes)) return -1;
            long sum = 0;
            long many = 0;
            for (List<Integer> order : orders()) {
                Set<Integer> come = new HashSet<>(order.subList(0, order.indexOf(change)));
                int were = unlike(now, come);
                come.add(change);
                sum += unlike(now, come) - were;
                many++;
            }
            return told(BigInteger.valueOf(sum), BigInteger.valueOf(many), upper);
        }

        int see(int ending, int i, int v, int was) {
            if (!in(ending, endings)) return -1;
            if (i < 0 || i > 4 || v < 1 || v > 5 || was < 0 || was > 1) return -2;
            if (seen.size() == 6) return -4;
            seen.add(new int[] {ending, i, v, was});
            return seen.size();
        }

        int unsee() {
            int was = seen.size();
            seen.clear();
            return was;
        }

        int which(int what) {
            if (what < 0 || what > 1) return -2;
            List<Integer> roots = new ArrayList<>();
            for (int r = 111; r <= 555; r++) {
                if (word(r) != null && allSeenIsSo(word(r))) roots.add(r);
            }
            return what == 0 ? roots.size() : roots.isEmpty() ? -9 : roots.get(0);
        }

        private boolean allSeenIsSo(String root) {
            for (int[] s : seen) {
                String made = in(s[0], endings) ? now.all(root + endings.get(s[0])) : "";
                boolean was = made.length() > s[1] && made.charAt(s[1]) == 'a' + s[2] - 1;
                if (was != (s[3] == 1)) return false;
            }
            return true;
        }

        int fails(int root, int ending, int x, boolean upper) {
            if (!pair(root, ending)) return -1;
            if (x < 0 || x > 10) return -2;
            String bare = roots.get(root) + endings.get(ending);
            BigInteger above = same(bare, now.all(bare), 0, x);
            return told(above, BigInteger.TEN.pow(now.order.size()), upper);
        }

        private BigInteger same(String word, String due, int place, int x) {
            if (place == now.order.size()) return word.equals(due) ? BigInteger.ONE : BigInteger.ZERO;
            BigInteger goes = same(now.changed(now.order.get(place), word), due, place + 1, x);
            BigInteger not = same(word, due, place + 1, x);
            return goes.multiply(BigInteger.valueOf(10 - x)).add(not.multiply(BigInteger.valueOf(x)));
        }

        long seed(long v) {
            long was = seed.longValue();
            seed = new BigInteger(Long.toUnsignedString(v));
            return was;
        }

        int drawn(int m) {
            if (m < 1 || m > 20) return -2;
            int sum = 0;
            for (int i = 0; i < m; i++) {
                seed = seed.multiply(new BigInteger("6364136223846793005"))
                        .add(new BigInteger("1442695040888963407")).mod(BigInteger.ONE.shiftLeft(64));
                long bits = seed.shiftRight(33).longValueExact();
                StringBuilder root = new StringBuilder();
                for (long by : new long[] {1, 8, 64, 512}) root.append((char) ('a' + bits / by % 5));
                sum += now.all(root.toString()).length();
            }
            return sum;
        }

        int keep(int slot) {
            if (slot < 0 || slot > 1) return -1;
            slots[slot] = now.copy();
            return now.forms.size();
        }

        int again(int slot) {
            if (slot < 0 || slot > 1) return -1;
            if (slots[slot] == null) return -3;
            now = slots[slot].copy();
            before.clear();
            return now.forms.size();
        }
    }
}
