import java.util.ArrayList;
import java.util.Arrays;
import java.util.Collections;
import java.util.HashSet;
import java.util.List;
import java.util.Set;
import java.util.TreeMap;

/**
 * The document from its first line to its last: what the other tests leave of its sentences, each worked out here by
 * its words alone, over all that there may be; and that no sentence is left that no test quotes.
 */
public final class WholeTest {
    private static final int LATE = -3, NONE = -9;
    private static final int CALLS = 512;
    private static final String TOLD = "-abcde*.";
    /** Lists whose changes cross, with words that become alike and words that become unlike. */
    private static final String[][] LISTS = {
        {"RabRbaRcaRacEaEbcEc", "Cab**", "Cbc*a", "Cca.*", "Ca-c*"},
        {"RabcRcbaRdaReEdEaEb", "Cab*c", "Cba*.", "Cd-**", "Cedd*"},
        {"RaabaRbaabRabRbEaEab", "Ca-aa", "Cba**", "Cab.*", "Cab*."},
        {"RabRbcRcdRdeEaEe", "Cabb*", "Cac**", "Cea*."},
        {"RcaRcEaEbEc", "Cac**", "Cba.*"},
        {"RadRdaEd", "Cd-**"},
        {"RaRbEcEd"},
    };
    private static final Sentences the = new Sentences();

    public static void main(String[] args) {
        whatItIs();
        laterCalls();
        figures();
        partsBegin();
        changesGoOver();
        oneAfterTheOther();
        formsBeside();
        doings();
        best();
        share();
        seenAndWhich();
        fails();
        drawn();
        refusals();
        faultIsTold();
        textIsTheList();
        takenApart();
        bestIsTold();
        the.dueAllQuoted(List.of("TermsTest", "EdgeTest", "UntouchedTest", "WholeTest"));
        the.end();
    }

    // ---- what it is

    private static void whatItIs() {
        the.of("Words that are kin: roots, endings, and changes of sounds that come one after the other, told as a text"
                + " with the first fault and the part in which it is, letter by letter;");
        WordKin x = new WordKin();
        the.due("a text in the middle of a part: fault(0)", writeAll(x, "RabRbcEaC"), 9);
        the.due("fault(1)", x.fault(1), 3);
        the.due("a text that is a list: fault(0)", writeAll(x, "ab**Cbc**"), NONE);
        the.due("list()", x.list(), 5);
        the.of("words made of a root and an ending, step by step; words taken apart again, by all that may have made"
                + " them; changes that cross, so that it matters which comes first;");
        for (int k = 0; k <= 2; k++) the.due("step(0, 0, " + k + ")", x.step(0, 0, k), new int[] {121, 222, 333}[k]);
        the.due("made(1, 0)", x.made(1, 0), 333);
        the.due("apart(333, 0)", x.apart(333, 0), 2);
        the.due("cross(0, 1)", x.cross(0, 1), 1);
        the.of("forms that are told beside, exceptions, the order of changes by which there are fewest, how many orders"
                + " are as good;");
        the.due("tell(0, 0, 232)", x.tell(0, 0, 232), 1);
        the.due("best(0)", x.best(0), 0);
        the.due("best(1)", x.best(1), 10);
        the.due("best(2)", x.best(2), 1);
        the.of("changes put into another order, or made otherwise, all undone; told doings judged;");
        the.due("swap(0, 1)", x.swap(0, 1), 2);
        the.due("resign(0, 1, 0)", x.resign(0, 1, 0), 2);
        the.due("made(0, 0)", x.made(0, 0), 3);
        for (int left = 2; left >= 0; left--) the.due("undo()", x.undo(), left);
        the.due("made(0, 0) again", x.made(0, 0), 333);
        the.due("judge(2, 10013003)", x.judge(2, 1001_3003L), NONE);
        the.of("which root it was, by letters of a word that were seen; shares of changes in unlike words, changes that"
                + " fail by chance, roots by a seed; kept and gone on from.");
        the.due("see(0, 0, 4, 1)", x.see(0, 0, 4, 1), 1);
        the.due("which(1)", x.which(1), 411);
        the.due("share(0, true)", x.share(0, true), -1);
        the.due("share(0, false)", x.share(0, false), 2);
        the.due("fails(0, 0, 5, true)", x.fails(0, 0, 5, true), 1);
        the.due("fails(0, 0, 5, false)", x.fails(0, 0, 5, false), 4);
        the.due("drawn(2)", x.drawn(2), 8);
        the.due("keep(1)", x.keep(1), 0);
        the.due("again(1)", x.again(1), 0);
    }

    private static int writeAll(WordKin x, String text) {
        Kin.write(x, text);
        return x.fault(0);
    }

    /** What they answer is free, but LANGUAGE.md wants each call to answer and to end, in any state. */
    private static void laterCalls() {
        the.of("An object is used for at most 512 calls after it has been made; what later calls answer is free.");
        WordKin x = Kin.listed("RabRbcEaEbcCab**Cbc**Cd-.*");
        int[] odd = {0, 1, 2, 3, 4, 5, 9, 111, 555555, -1, -9, Integer.MAX_VALUE, Integer.MIN_VALUE};
        int calls = 0;
        for (int i = 0; i < 20 * CALLS; i++) {
            int a = odd[i % odd.length];
            int b = odd[i / odd.length % odd.length];
            int c = odd[i / (odd.length * odd.length) % odd.length];
            callEach(x, a, b, c);
            calls++;
        }
        the.due("each call has answered, so often", calls, 20 * CALLS);
    }

    private static void callEach(WordKin x, int a, int b, int c) {
        x.write(a);
        x.fault(b);
        x.about(a);
        x.part(a, b);
        x.sign(a, b);
        x.order(c);
        x.made(a, b);
        x.step(a, b, c);
        x.apart(a, b);
        x.form(a, b);
        x.swap(a, b);
        x.resign(a, b, c);
        x.tell(a, b, c);
        x.cross(a, b);
        x.best(c);
        x.judge(a, (long) b * c);
        x.share(a, c > 0);
        x.see(a, b, c, c & 1);
        x.which(a);
        x.fails(a, b, c, c > 0);
        x.seed((long) a * b);
        x.drawn(b);
        x.keep(a);
        x.again(b);
        if (c == 3) x.undo();
        if (c == 4) x.unsee();
        if (c == 5) x.list();
        if (c == 9) x.wipe();
    }

    // ---- words of the document's own, by texts

    private static String textOf(int word) {
        StringBuilder b = new StringBuilder();
        for (char figure : String.valueOf(word).toCharArray()) {
            if (figure != '0') b.append((char) ('a' + figure - '1'));
        }
        return b.toString();
    }

    private static int figuresOf(String word) {
        int figures = 0;
        for (char letter : word.toCharArray()) figures = 10 * figures + letter - 'a' + 1;
        return figures;
    }

    private static boolean tells(char sign, String word, int place) {
        boolean isThere = place >= 0 && place < word.length();
        return sign == '*' || (sign == '.' ? !isThere : isThere && word.charAt(place) == sign);
    }

    /** A change is told as in a list: C and four signs. */
    private static String goneOver(String change, String word) {
        StringBuilder b = new StringBuilder();
        for (int i = 0; i < word.length(); i++) {
            boolean changes = word.charAt(i) == change.charAt(1) && tells(change.charAt(3), word, i - 1)
                    && tells(change.charAt(4), word, i + 1);
            char then = changes ? change.charAt(2) : word.charAt(i);
            if (then != '-') b.append(then);
        }
        return b.toString();
    }

    private static String behind(List<String> changes, String word) {
        String now = word;
        for (String change : changes) now = goneOver(change, now);
        return now;
    }

    // ---- lists

    private static String[] partsOf(String list, String kind) {
        List<String> found = new ArrayList<>();
        for (String part : list.split("(?=[RE])")) {
            if (part.startsWith(kind)) found.add(part.substring(1));
        }
        return found.toArray(new String[0]);
    }

    private static String[] joined(String list) {
        List<String> words = new ArrayList<>();
        for (String root : partsOf(list, "R")) {
            for (String ending : partsOf(list, "E")) words.add(root + ending);
        }
        return words.toArray(new String[0]);
    }

    private static WordKin listOf(String[] list) {
        return Kin.listed(String.join("", list));
    }

    private static List<String> changesOf(String[] list) {
        return Arrays.asList(list).subList(1, list.length);
    }

    private static List<List<Integer>> ordersOf(int many) {
        List<List<Integer>> orders = new ArrayList<>();
        if (many == 0) {
            orders.add(new ArrayList<>());
            return orders;
        }
        for (List<Integer> shorter : ordersOf(many - 1)) {
            for (int at = 0; at < many; at++) {
                List<Integer> order = new ArrayList<>(shorter);
                order.add(at, many - 1);
                orders.add(order);
            }
        }
        return orders;
    }

    /** Puts the object's changes into an order by swaps of places. */
    private static void putInOrder(WordKin x, List<Integer> order) {
        for (int place = 0; place < order.size(); place++) {
            int at = place;
            while (x.order(at) != order.get(place)) at++;
            if (at != place) x.swap(place, at);
        }
    }

    private static List<String> inOrder(List<String> changes, List<Integer> order) {
        List<String> then = new ArrayList<>();
        for (int change : order) then.add(changes.get(change));
        return then;
    }

    /** The last order that there is, with its first two places swapped: none that a loop would begin with. */
    private static List<Integer> anOrder(int many) {
        List<Integer> order = new ArrayList<>();
        for (int change = many - 1; change >= 0; change--) order.add(change);
        if (many > 1) Collections.swap(order, 0, 1);
        return order;
    }

    /** Those changes of the order whose bits are in the set. */
    private static List<String> some(List<String> changes, List<Integer> order, int set) {
        List<String> those = new ArrayList<>();
        for (int change : order) {
            if ((set >> change & 1) == 1) those.add(changes.get(change));
        }
        return those;
    }

    private static int gcd(int one, int other) {
        return other == 0 ? one : gcd(other, one % other);
    }

    // ---- Terms 1

    private static void figures() {
        the.of("5 as figures).");
        for (int i = 1; i <= 5; i++) {
            char letter = (char) ('a' + i - 1);
            the.due("root " + letter, Kin.listed("R" + letter).part(0, 0), i);
            the.due("ending a" + letter, Kin.listed("Ea" + letter).part(1, 0), 10 + i);
            the.due("from " + letter, Kin.listed("C" + letter + "a**").sign(0, 0), i);
        }
    }

    private static void partsBegin() {
        the.of("A LIST is a TEXT: PARTS, none or more, in any row, each kind numbered as it is told: R and the LETTERS"
                + " of a ROOT; E and those of an ENDING; C and four SIGNS.");
        String[] ahead = {"", "Ra", "Rabcd", "Ea", "Eab", "Cab**"};
        for (String text : ahead) {
            for (int c = 0; c <= 255; c++) {
                boolean begins = "REC".indexOf(c) >= 0;
                boolean goesOn = (text.equals("Ra") || text.equals("Ea")) && c >= 'a' && c <= 'e';
                int due = goesOn ? NONE : begins ? text.length() + 1 : text.length();
                the.due("fault(0) of " + text + " and letter " + c, Kin.written(text + (char) c).fault(0), due);
            }
        }
        the.due("R", Kin.listed("Rabcd").part(0, 0), 1234);
        the.due("E", Kin.listed("Eab").part(1, 0), 12);
        for (int i = 0; i < 4; i++) the.due("C", Kin.listed("Ce-.*").sign(0, i), new int[] {5, 0, 7, 6}[i]);
    }

    private static void changesGoOver() {
        the.of("A CHANGE goes over a WORD at all places at once: each LETTER that is FROM, ahead of which there is what"
                + " AHEAD tells, and behind which there is what BEHIND tells (by the WORD as it was), becomes TO, or is"
                + " gone.");
        String parts = "RaabaRcbbcRbRdedeEaEbaEce";
        String[] words = joined(parts);
        for (int i = 0; i < 5 * 6 * 7; i++) {
            String three = "C" + TOLD.charAt(1 + i / 42) + TOLD.charAt(i / 7 % 6) + TOLD.charAt(1 + i % 7);
            WordKin x = Kin.listed(parts + three + "*");
            for (int behind = 1; behind <= 7; behind++) {
                x.resign(0, 3, behind);
                String change = three + TOLD.charAt(behind);
                for (int w = 0; w < words.length; w++) {
                    the.due(change + " over " + words[w], x.made(w / 3, w % 3), figuresOf(goneOver(change, words[w])));
                }
            }
        }
    }

    private static void oneAfterTheOther() {
        the.of("MADE of a ROOT and an ENDING: the ROOT, then the ENDING, as one WORD, over which CHANGES go by THE"
                + " ORDER, one after the other.");
        for (String[] list : LISTS) {
            String[] words = joined(list[0]);
            int endings = partsOf(list[0], "E").length;
            List<String> changes = changesOf(list);
            for (List<Integer> order : ordersOf(changes.size())) {
                WordKin x = listOf(list);
                putInOrder(x, order);
                for (int w = 0; w < words.length; w++) {
                    int due = figuresOf(behind(inOrder(changes, order), words[w]));
                    the.due(order + ": " + words[w], x.made(w / endings, w % endings), due);
                }
            }
        }
    }

    private static void formsBeside() {
        the.of("FORMS: of a ROOT and an ENDING another WORD (0 .. 6 LETTERS) may be told beside; at first none is.");
        WordKin x = Kin.listed("RaRbRcRdEaEbEcCab**");
        WordKin untold = Kin.listed("RaRbRcRdEaEbEcCab**");
        for (int pair = 0; pair < 12; pair++) {
            the.due("before pair " + pair, x.form(pair / 3, pair % 3), NONE);
            x.tell(pair / 3, pair % 3, 111 + pair / 3 * 10 + pair % 3);
        }
        for (int pair = 0; pair < 12; pair++) {
            the.due("of each its own", x.form(pair / 3, pair % 3), 111 + pair / 3 * 10 + pair % 3);
            int made = untold.made(pair / 3, pair % 3);
            the.due("beside what is made", x.made(pair / 3, pair % 3), made);
            the.due("taken apart is what is made", x.apart(made, 0), untold.apart(made, 0));
            the.due("not what is told", x.apart(111 + pair / 3 * 10 + pair % 3, 0), 0);
        }
        the.due("unlike words made", x.about(3), untold.about(3));
    }

    private static void doings() {
        the.of("DOINGS (SWAPPED: two places of THE ORDER change what they have (it may be one); SIGNED: a CHANGE gets"
                + " another SIGN; FORMED: of a ROOT and an ENDING a FORM is told, or none any more) are a row");
        WordKin x = Kin.listed("RaRbEaEbCab**Cbc**Ccd**");
        int[] before = lookAt(x);
        x.swap(0, 2);
        int[] swapped = lookAt(x);
        dueOtherAlone("swapped", before, swapped, Set.of(0, 2));
        x.resign(1, 2, 7);
        int[] signed = lookAt(x);
        dueOtherAlone("signed", swapped, signed, Set.of(3 + 4 + 2));
        x.tell(1, 0, 5);
        int[] formed = lookAt(x);
        dueOtherAlone("formed", signed, formed, Set.of(15 + 2));
        x.tell(1, 0, NONE);
        dueOtherAlone("none any more", formed, lookAt(x), Set.of(15 + 2));
        the.due("doings", x.about(7), 4);
        int[][] back = {formed, signed, swapped, before};
        for (int i = 0; i < 4; i++) {
            the.due("undo()", x.undo(), 3 - i);
            dueOtherAlone("undone", back[i], lookAt(x), Set.of());
        }
    }

    /** Three places of the order, twelve signs, four forms. */
    private static int[] lookAt(WordKin x) {
        int[] seen = new int[19];
        for (int i = 0; i < 3; i++) seen[i] = x.order(i);
        for (int i = 0; i < 12; i++) seen[3 + i] = x.sign(i / 4, i % 4);
        for (int i = 0; i < 4; i++) seen[15 + i] = x.form(i / 2, i % 2);
        return seen;
    }

    private static void dueOtherAlone(String doing, int[] before, int[] then, Set<Integer> others) {
        for (int i = 0; i < before.length; i++) {
            the.dueTrue(doing + ": thing " + i, (before[i] != then[i]) == others.contains(i));
        }
    }

    // ---- Terms 2

    private static void best() {
        the.of("BEST: of all ORDERS that by which there are fewest EXCEPTIONS, of like ones that which is least as"
                + " figures (the first CHANGE first): how many EXCEPTIONS; that ORDER; how many ORDERS have as few.");
        for (String[] list : LISTS) {
            List<String> changes = changesOf(list);
            // forms as the last orders make them, one each, so that no order has to have all of them
            List<List<Integer>> orders = ordersOf(changes.size());
            for (int shift = 0; shift < orders.size(); shift += 5) bestOfForms(list, changes, orders, shift);
        }
    }

    private static void bestOfForms(String[] list, List<String> changes, List<List<Integer>> orders, int shift) {
        String[] words = joined(list[0]);
        int endings = partsOf(list[0], "E").length;
        WordKin x = listOf(list);
        int[] forms = new int[words.length];
        for (int w = 0; w < words.length; w++) {
            List<Integer> order = orders.get((w + shift) % orders.size());
            forms[w] = figuresOf(behind(inOrder(changes, order), words[w]));
            x.tell(w / endings, w % endings, forms[w]);
        }
        TreeMap<Integer, Integer> many = new TreeMap<>();
        TreeMap<Integer, Integer> least = new TreeMap<>();
        for (List<Integer> order : orders) {
            int exceptions = 0;
            for (int w = 0; w < words.length; w++) {
                if (figuresOf(behind(inOrder(changes, order), words[w])) != forms[w]) exceptions++;
            }
            int figures = 0;
            for (int change : order) figures = 10 * figures + change;
            many.merge(exceptions, 1, Integer::sum);
            least.merge(exceptions, figures, Math::min);
        }
        // it is of all orders, whichever there is now
        if (shift > 0) putInOrder(x, anOrder(changes.size()));
        String of = String.join("", list) + ", shift " + shift;
        the.due("best(0) of " + of, x.best(0), many.firstKey());
        the.due("best(1) of " + of, x.best(1), least.firstEntry().getValue());
        the.due("best(2) of " + of, x.best(2), many.firstEntry().getValue());
    }

    private static int unlike(String[] words, List<String> changes) {
        Set<String> made = new HashSet<>();
        for (String word : words) made.add(behind(changes, word));
        return made.size();
    }

    private static void share() {
        the.of("SHARE of a CHANGE: if CHANGES come one by one, in each order as likely (those that have come go over"
                + " WORDS by THE ORDER, others not at all): by how many unlike WORDS MADE (of all ROOTS and ENDINGS)"
                + " there are in the mean more when it has come than there were: a FRACTION.");
        for (String[] list : LISTS) {
            List<String> changes = changesOf(list);
            List<Integer> byNumber = ordersOf(changes.size()).get(ordersOf(changes.size()).size() - 1);
            shareBy(list, changes, byNumber);
            shareBy(list, changes, anOrder(changes.size()));
        }
    }

    private static void shareBy(String[] list, List<String> changes, List<Integer> order) {
        WordKin x = listOf(list);
        putInOrder(x, order);
        String[] words = joined(list[0]);
        List<List<Integer>> comings = ordersOf(changes.size());
        for (int change = 0; change < changes.size(); change++) {
            int more = 0;
            for (List<Integer> coming : comings) {
                int come = 0;
                for (int i = 0; coming.get(i) != change; i++) come |= 1 << coming.get(i);
                more += unlike(words, some(changes, order, come | 1 << change))
                        - unlike(words, some(changes, order, come));
            }
            int shared = gcd(Math.abs(more), comings.size());
            String of = "share(" + change + ") of " + String.join("", list) + " by " + order;
            the.due(of + ", above", x.share(change, true), more / shared);
            the.due(of + ", below", x.share(change, false), comings.size() / shared);
        }
    }

    // ---- Terms 3

    private static void seenAndWhich() {
        the.of("SEEN: that of an unknown ROOT of three LETTERS and an ENDING LETTER i (0 .. 4) of what is MADE was v"
                + " (1), or was not (0; also if it has not so many): 6 such at most, none at first. WHICH: ROOTS of"
                + " three LETTERS by which all that is SEEN is so, by CHANGES as they are");
        for (String[] list : LISTS) {
            List<String> changes = changesOf(list);
            String[] endings = partsOf(list[0], "E");
            for (int unknown = 0; unknown < 125; unknown += 13) {
                String root = textOf(111 + 100 * (unknown / 25) + 10 * (unknown / 5 % 5) + unknown % 5);
                seeThrough(list, changes, endings, root);
            }
        }
    }

    /** Sees six letters of the words that a root makes, and asks behind each; then behind another order. */
    private static void seeThrough(String[] list, List<String> changes, String[] endings, String root) {
        WordKin x = listOf(list);
        int[][] seen = new int[6][];
        for (int i = 0; i < 6; i++) {
            int ending = i % endings.length;
            int place = (i + root.charAt(0)) % 5;
            String word = behind(changes, root + endings[ending]);
            boolean was = place < word.length() && i % 3 != 2;
            int letter = was ? word.charAt(place) - 'a' + 1 : 1 + (i + root.charAt(2)) % 5;
            seen[i] = new int[] {ending, place, letter, was ? 1 : 0};
            the.due("see()", x.see(ending, place, letter, was ? 1 : 0), i + 1);
            whichDue(x, Arrays.copyOf(seen, i + 1), changes, endings);
        }
        List<Integer> order = anOrder(changes.size());
        putInOrder(x, order);
        whichDue(x, seen, inOrder(changes, order), endings);
        if (!changes.isEmpty()) {
            x.resign(0, 1, 0);
            List<String> signed = new ArrayList<>(changes);
            signed.set(0, changes.get(0).substring(0, 2) + "-" + changes.get(0).substring(3));
            whichDue(x, seen, inOrder(signed, order), endings);
        }
    }

    private static void whichDue(WordKin x, int[][] seen, List<String> changes, String[] endings) {
        int many = 0;
        int first = NONE;
        for (int number = 555; number >= 111; number--) {
            if (String.valueOf(number).matches("[1-5]{3}") && allSo(textOf(number), seen, changes, endings)) {
                many++;
                first = number;
            }
        }
        the.due("which(0) by " + Arrays.deepToString(seen) + " and " + changes, x.which(0), many);
        the.due("which(1) by " + Arrays.deepToString(seen) + " and " + changes, x.which(1), first);
    }

    private static boolean allSo(String root, int[][] seen, List<String> changes, String[] endings) {
        for (int[] one : seen) {
            String word = behind(changes, root + endings[one[0]]);
            boolean is = one[1] < word.length() && word.charAt(one[1]) - 'a' + 1 == one[2];
            if (is != (one[3] == 1)) return false;
        }
        return true;
    }

    private static void fails() {
        the.of("FAILS: each CHANGE does not go over a WORD at all by x tenths (0 .. 10), by itself: that of a ROOT and"
                + " an ENDING the same is MADE: a FRACTION.");
        for (String[] list : LISTS) {
            List<String> changes = changesOf(list);
            String[] words = joined(list[0]);
            List<Integer> order = anOrder(changes.size());
            for (int w = 0; w < words.length; w++) {
                WordKin x = listOf(list);
                putInOrder(x, order);
                for (int tenths = 0; tenths <= 10; tenths++) failsDue(x, list, order, w, tenths);
            }
        }
    }

    private static void failsDue(WordKin x, String[] list, List<Integer> order, int w, int tenths) {
        List<String> changes = changesOf(list);
        String word = joined(list[0])[w];
        String made = behind(inOrder(changes, order), word);
        int above = 0;
        int below = 1;
        for (int i = 0; i < changes.size(); i++) below *= 10;
        for (int going = 0; going < 1 << changes.size(); going++) {
            int chance = 1;
            for (int i = 0; i < changes.size(); i++) chance *= (going >> i & 1) == 1 ? 10 - tenths : tenths;
            if (behind(some(changes, order, going), word).equals(made)) above += chance;
        }
        int shared = gcd(above, below);
        int endings = partsOf(list[0], "E").length;
        String of = word + " by " + tenths + ", " + inOrder(changes, order);
        the.due("fails() of " + of + ", above", x.fails(w / endings, w % endings, tenths, true), above / shared);
        the.due("fails() of " + of + ", below", x.fails(w / endings, w % endings, tenths, false), below / shared);
    }

    private static void drawn() {
        the.of("of this ROOT, without an ENDING, how many LETTERS there are behind all CHANGES, each time, together.");
        for (String[] list : LISTS) {
            List<String> changes = changesOf(list);
            List<Integer> order = anOrder(changes.size());
            WordKin x = listOf(list);
            putInOrder(x, order);
            long seed = -list[0].hashCode();
            x.seed(seed);
            for (int m = 1; m <= 20; m++) {
                int letters = 0;
                for (int time = 0; time < m; time++) {
                    seed = seed * 6364136223846793005L + 1442695040888963407L;
                    letters += behind(inOrder(changes, order), rootOf(seed >>> 33)).length();
                }
                the.due("drawn(" + m + ") by " + inOrder(changes, order), x.drawn(m), letters);
            }
            the.due("the seed then", x.seed(0L), seed);
        }
    }

    private static String rootOf(long upperBits) {
        StringBuilder b = new StringBuilder();
        for (long bits = upperBits; b.length() < 4; bits /= 8) b.append((char) ('a' + bits % 5));
        return b.toString();
    }

    // ---- Terms 4

    private static void refusals() {
        the.of("REFUSALS: UNKNOWN -1 (there is no such ROOT, ENDING, CHANGE, place, SLOT), BAD -2, LATE -3, FULL -4.");
        WordKin x = Kin.listed("RaEb");
        the.due("no such root", x.made(1, 0), -1);
        the.due("no such ending", x.made(0, 1), -1);
        the.due("no such change", x.sign(0, 0), -1);
        the.due("no such place", x.order(0), -1);
        the.due("no such slot", x.keep(2), -1);
        the.due("bad", x.about(10), -2);
        the.due("late", x.undo(), -3);
        for (int i = 4; i < 60; i++) x.write('a');
        the.due("full", x.write('a'), -4);
    }

    // ---- promises

    private static void faultIsTold() {
        the.ofPromise(4, "the number of the PART in which it is, from 0 on (1;");
        String list = "RaEbCcd**Re";
        // of each letter: in which part it stands
        int[] parts = {0, 0, 1, 1, 2, 2, 2, 2, 2, 3, 3};
        for (int length = 0; length < list.length(); length++) {
            boolean between = "REC".indexOf(list.charAt(length)) >= 0;
            int part = between ? parts[length] : parts[length - 1];
            WordKin x = Kin.written(list.substring(0, length) + "?");
            the.due("fault(0), ? behind " + length, x.fault(0), length);
            the.due("fault(1), ? behind " + length, x.fault(1), part);
            WordKin cut = Kin.written(list.substring(0, length));
            the.due("fault(0), cut behind " + length, cut.fault(0), between ? NONE : length);
            the.due("fault(1), cut behind " + length, cut.fault(1), between ? NONE : part);
        }
        the.ofPromise(4, "NONE: none. BAD.");
        the.due("none, and bad", new WordKin().fault(2), -2);
    }

    private static void textIsTheList() {
        the.ofPromise(5, "THE TEXT is THE LIST (THE ORDER as at first, no FORMS, no DOINGS; what was kept is gone;"
                + " SEEN, THE SEED stay): how many PARTS. LATE: a FAULT.");
        WordKin x = Kin.listed("RaEb");
        Kin.write(x, "Rcd");
        the.due("a text that is not yet taken", x.about(0), 1);
        the.due("list()", x.list(), 3);
        the.due("taken whole", x.part(0, 0), 1);
        the.due("taken whole", x.part(0, 1), 34);
        the.due("the text stays", x.about(9), 7);
        the.due("and can be taken again", x.list(), 3);
        x.write('?');
        the.due("a fault", x.list(), LATE);
        the.due("the list stays", x.part(0, 1), 34);
        x.wipe();
        the.due("the list stays without its text", x.about(0), 2);
    }

    private static void takenApart() {
        the.ofPromise(12, "TAKEN APART: into how many (what = 0), the first as 10 times ROOT and ENDING (1; the least;"
                + " NONE). BAD: word (0, or 1 .. 6 figures 1 .. 5), what.");
        for (String[] list : LISTS) {
            String[] words = joined(list[0]);
            int endings = partsOf(list[0], "E").length;
            WordKin x = listOf(list);
            for (String word : words) apartDue(x, list, words, endings, behind(changesOf(list), word));
            for (String word : words) apartDue(x, list, words, endings, word);
            apartDue(x, list, words, endings, "");
        }
    }

    private static void bestIsTold() {
        the.ofPromise(19, "BEST: EXCEPTIONS (what = 0), ORDER as figures (1; no CHANGES: 0), how many ORDERS (2)."
                + " BAD.");
        for (int what = 0; what <= 2; what++) the.due("no changes", new WordKin().best(what), what == 2 ? 1 : 0);
        the.due("bad", new WordKin().best(3), -2);
    }

    private static void apartDue(WordKin x, String[] list, String[] words, int endings, String word) {
        int many = 0;
        int first = NONE;
        for (int w = words.length - 1; w >= 0; w--) {
            if (behind(changesOf(list), words[w]).equals(word)) {
                many++;
                first = 10 * (w / endings) + w % endings;
            }
        }
        the.due("apart(" + word + ", 0)", x.apart(figuresOf(word), 0), many);
        the.due("apart(" + word + ", 1)", x.apart(figuresOf(word), 1), first);
    }
}
