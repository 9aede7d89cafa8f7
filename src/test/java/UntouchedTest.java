import java.util.ArrayList;
import java.util.List;
import java.util.function.Consumer;
import java.util.function.Supplier;
import java.util.function.ToLongFunction;

/**
 * What is refused changes nothing, and neither does what is only asked: behind each such call everything that can be
 * looked at is as it is in an object that was not called; and of several refusals the one told first is answered.
 */
public final class UntouchedTest {
    private static final int UNKNOWN = -1, BAD = -2, LATE = -3, FULL = -4, NONE = -9;
    private static final int LEAST = Integer.MIN_VALUE, MOST = Integer.MAX_VALUE;
    private static final int[] NO_WORDS = {-1, -8, -10, 6, 10, 60, 105, 555556, 600000, 1111111, MOST, LEAST};
    private static final Sentences the = new Sentences();

    public static void main(String[] args) {
        List<State> states = List.of(
                new State("a new object", UntouchedTest::nothing, 0, 0, 0),
                new State("some of each", UntouchedTest::some, 2, 2, 3),
                new State("all undone", UntouchedTest::allUndone, 2, 2, 3),
                new State("all places taken", UntouchedTest::full, 4, 3, 4));
        for (State state : states) {
            the.of("Of several what is told first. What is refused changes nothing.");
            refusedByNumbers(state);
            refusedBySigns(state);
            refusedByWords(state);
            refusedByWhat(state);
            the.of("In what follows nothing is changed.");
            asked(state);
            the.of("(Nothing changes but THE SEED.)");
            drawn(state);
        }
        the.of("Of several what is told first. What is refused changes nothing.");
        refusedWhenNothingIsThere(states.get(0));
        refused(states.get(1), "again(0)", LATE, x -> x.again(0));
        refused(states.get(2), "undo()", LATE, WordKin::undo);
        refusedWhenFull(states.get(3));
        the.end();
    }

    // ---- the states

    private static WordKin nothing() {
        return new WordKin();
    }

    /** A text that is another list, one slot kept, the other not, and room for more of everything. */
    private static WordKin some() {
        WordKin x = Kin.listed("RabRcaEbEcdCab**Cbc*aCa-.*");
        x.tell(0, 1, 123);
        x.swap(0, 2);
        x.keep(1);
        x.resign(1, 3, 6);
        x.tell(1, 0, 0);
        x.see(0, 0, 2, 1);
        x.see(1, 4, 1, 0);
        x.seed(77L);
        x.wipe();
        Kin.write(x, "ReEedEcCed..");
        return x;
    }

    private static WordKin allUndone() {
        WordKin x = some();
        for (int i = 0; i < 4; i++) x.undo();
        return x;
    }

    /** A full text with a fault, fifteen doings of which one is forgotten, twelve forms, six seen, both slots kept. */
    private static WordKin full() {
        WordKin x = Kin.listed("RabcdRbbRcaReEaEbcEdeCab**Cbc*aCa-.*Cde**");
        x.keep(0);
        x.swap(0, 3);
        x.resign(2, 1, 4);
        for (int pair = 0; pair < 12; pair++) {
            x.tell(pair / 3, pair % 3, pair % 2 == 0 ? 12345 : x.made(pair / 3, pair % 3));
        }
        x.keep(1);
        x.swap(1, 2);
        for (int i = 0; i < 6; i++) x.see(i % 3, 4, 1 + i % 5, 0);
        x.seed(Long.MIN_VALUE);
        for (int i = x.about(9); i < 60; i++) x.write('a');
        return x;
    }

    private static final class State {
        private final String name;
        private final Supplier<WordKin> maker;
        private final int roots;
        private final int endings;
        private final int changes;
        private final List<String> looks;

        State(String name, Supplier<WordKin> maker, int roots, int endings, int changes) {
            this.name = name;
            this.maker = maker;
            this.roots = roots;
            this.endings = endings;
            this.changes = changes;
            this.looks = looksBehind(x -> { });
        }

        /** All that can be looked at behind a call; an object that is looked at by doings is made anew each time. */
        List<String> looksBehind(Consumer<WordKin> call) {
            List<String> all = new ArrayList<>();
            for (int undos = 0; undos <= 15; undos++) {
                WordKin x = called(call);
                for (int i = 0; i < undos; i++) x.undo();
                all.add("behind " + undos + " undos: " + look(x));
            }
            for (int slot = 0; slot < 2; slot++) {
                WordKin x = called(call);
                all.add("again(" + slot + ") " + x.again(slot) + ": " + look(x));
            }
            WordKin listed = called(call);
            all.add("list() " + listed.list() + ": " + look(listed));
            WordKin written = called(call);
            all.add("write() " + written.write('e') + ", list() " + written.list() + ": " + look(written));
            return all;
        }

        private WordKin called(Consumer<WordKin> call) {
            WordKin x = maker.get();
            call.accept(x);
            return x;
        }
    }

    private static String look(WordKin x) {
        StringBuilder b = new StringBuilder();
        for (int what = 0; what <= 9; what++) b.append(x.about(what)).append(' ');
        b.append("fault ").append(x.fault(0)).append(' ').append(x.fault(1));
        for (int i = 0; i < 4; i++) b.append(" part ").append(x.part(0, i)).append(' ').append(x.part(1, i));
        for (int i = 0; i < 16; i++) b.append(" sign ").append(x.sign(i / 4, i % 4));
        for (int place = 0; place < 4; place++) b.append(" order ").append(x.order(place));
        for (int i = 0; i < 12; i++) {
            b.append(" made ").append(x.made(i / 3, i % 3)).append(' ').append(x.form(i / 3, i % 3));
        }
        for (int what = 0; what <= 2; what++) b.append(" best ").append(x.best(what));
        b.append(" which ").append(x.which(0)).append(' ').append(x.which(1));
        b.append(" drawn ").append(x.drawn(7)).append(" seed ").append(x.seed(0L));
        return b.toString();
    }

    // ---- what is due

    private static void dueUntouched(State state, String call, Consumer<WordKin> doIt) {
        List<String> looks = state.looksBehind(doIt);
        for (int i = 0; i < looks.size(); i++) {
            boolean same = looks.get(i).equals(state.looks.get(i));
            the.dueTrue(state.name + ", " + call + " touches nothing; was " + state.looks.get(i)
                    + " and is " + looks.get(i), same);
        }
    }

    private static void refused(State state, String call, int due, ToLongFunction<WordKin> doIt) {
        the.due(state.name + ", " + call, doIt.applyAsLong(state.maker.get()), due);
        dueUntouched(state, call, doIt::applyAsLong);
    }

    private static int[] around(int count) {
        return new int[] {-1, count, count + 1, LEAST, MOST};
    }

    // ---- what is refused, in each state

    private static void refusedByNumbers(State s) {
        for (int i : around(s.roots)) {
            refused(s, "part(0, " + i + ")", UNKNOWN, x -> x.part(0, i));
            refused(s, "made(" + i + ", 0)", UNKNOWN, x -> x.made(i, 0));
            refused(s, "step(" + i + ", 0, 0)", UNKNOWN, x -> x.step(i, 0, 0));
            refused(s, "step(" + i + ", 0, -1)", UNKNOWN, x -> x.step(i, 0, -1));
            refused(s, "form(" + i + ", 0)", UNKNOWN, x -> x.form(i, 0));
            refused(s, "tell(" + i + ", 0, 1)", UNKNOWN, x -> x.tell(i, 0, 1));
            refused(s, "tell(" + i + ", 0, 6)", UNKNOWN, x -> x.tell(i, 0, 6));
            refused(s, "fails(" + i + ", 0, 1, true)", UNKNOWN, x -> x.fails(i, 0, 1, true));
            refused(s, "fails(" + i + ", 0, 11, true)", UNKNOWN, x -> x.fails(i, 0, 11, true));
        }
        for (int i : around(s.endings)) {
            refused(s, "part(1, " + i + ")", UNKNOWN, x -> x.part(1, i));
            refused(s, "made(0, " + i + ")", UNKNOWN, x -> x.made(0, i));
            refused(s, "step(0, " + i + ", 0)", UNKNOWN, x -> x.step(0, i, 0));
            refused(s, "form(0, " + i + ")", UNKNOWN, x -> x.form(0, i));
            refused(s, "tell(0, " + i + ", NONE)", UNKNOWN, x -> x.tell(0, i, NONE));
            refused(s, "tell(0, " + i + ", 10)", UNKNOWN, x -> x.tell(0, i, 10));
            refused(s, "fails(0, " + i + ", 1, false)", UNKNOWN, x -> x.fails(0, i, 1, false));
            refused(s, "see(" + i + ", 0, 1, 1)", UNKNOWN, x -> x.see(i, 0, 1, 1));
            refused(s, "see(" + i + ", 5, 6, 2)", UNKNOWN, x -> x.see(i, 5, 6, 2));
        }
        for (int i : around(s.changes)) {
            refused(s, "sign(" + i + ", 0)", UNKNOWN, x -> x.sign(i, 0));
            refused(s, "sign(" + i + ", 4)", UNKNOWN, x -> x.sign(i, 4));
            refused(s, "order(" + i + ")", UNKNOWN, x -> x.order(i));
            refused(s, "swap(" + i + ", 0)", UNKNOWN, x -> x.swap(i, 0));
            refused(s, "swap(0, " + i + ")", UNKNOWN, x -> x.swap(0, i));
            refused(s, "swap(" + i + ", " + i + ")", UNKNOWN, x -> x.swap(i, i));
            refused(s, "resign(" + i + ", 0, 1)", UNKNOWN, x -> x.resign(i, 0, 1));
            refused(s, "resign(" + i + ", 4, 9)", UNKNOWN, x -> x.resign(i, 4, 9));
            refused(s, "cross(" + i + ", 0)", UNKNOWN, x -> x.cross(i, 0));
            refused(s, "cross(0, " + i + ")", UNKNOWN, x -> x.cross(0, i));
            refused(s, "share(" + i + ", true)", UNKNOWN, x -> x.share(i, true));
        }
        for (int slot : around(2)) {
            refused(s, "keep(" + slot + ")", UNKNOWN, x -> x.keep(slot));
            refused(s, "again(" + slot + ")", UNKNOWN, x -> x.again(slot));
        }
    }

    private static void refusedBySigns(State s) {
        int due = s.changes == 0 ? UNKNOWN : BAD;
        int[][] signs = {{-1, 1}, {4, 1}, {LEAST, 1}, {MOST, 1}, {0, 0}, {0, 6}, {0, LEAST}, {0, MOST}, {1, -1}, {1, 6},
            {1, 7}, {2, 0}, {2, 8}, {2, -1}, {3, 0}, {3, 8}, {3, MOST}};
        for (int[] sign : signs) {
            refused(s, "resign(0, " + sign[0] + ", " + sign[1] + ")", due, x -> x.resign(0, sign[0], sign[1]));
        }
        for (int which : around(4)) refused(s, "sign(0, " + which + ")", due, x -> x.sign(0, which));
    }

    private static void refusedByWords(State s) {
        int due = s.roots == 0 ? UNKNOWN : BAD;
        for (int word : NO_WORDS) {
            refused(s, "tell(0, 0, " + word + ")", due, x -> x.tell(0, 0, word));
            refused(s, "apart(" + word + ", 0)", BAD, x -> x.apart(word, 0));
            refused(s, "apart(" + word + ", 1)", BAD, x -> x.apart(word, 1));
        }
        refused(s, "apart(NONE, 0)", BAD, x -> x.apart(NONE, 0));
        for (int k : around(s.changes + 1)) refused(s, "step(0, 0, " + k + ")", due, x -> x.step(0, 0, k));
        for (int tenths : around(11)) {
            refused(s, "fails(0, 0, " + tenths + ", true)", due, x -> x.fails(0, 0, tenths, true));
        }
        for (int i : around(5)) refused(s, "see(0, " + i + ", 1, 1)", due, x -> x.see(0, i, 1, 1));
        int[] noLetters = {0, 6, -1, LEAST, MOST};
        for (int v : noLetters) refused(s, "see(0, 0, " + v + ", 1)", due, x -> x.see(0, 0, v, 1));
        for (int was : around(2)) refused(s, "see(0, 0, 1, " + was + ")", due, x -> x.see(0, 0, 1, was));
    }

    private static void refusedByWhat(State s) {
        for (int what : around(2)) {
            refused(s, "fault(" + what + ")", BAD, x -> x.fault(what));
            refused(s, "which(" + what + ")", BAD, x -> x.which(what));
            refused(s, "apart(0, " + what + ")", BAD, x -> x.apart(0, what));
            refused(s, "part(" + what + ", 0)", BAD, x -> x.part(what, 0));
            refused(s, "part(" + what + ", -1)", BAD, x -> x.part(what, -1));
        }
        for (int what : around(3)) refused(s, "best(" + what + ")", BAD, x -> x.best(what));
        for (int what : around(10)) refused(s, "about(" + what + ")", BAD, x -> x.about(what));
        for (int letter : around(256)) refused(s, "write(" + letter + ")", BAD, x -> x.write(letter));
        int[] noTimes = {0, 21, -1, LEAST, MOST};
        for (int m : noTimes) refused(s, "drawn(" + m + ")", BAD, x -> x.drawn(m));
        int[] noCounts = {0, 5, -1, LEAST, MOST};
        for (int n : noCounts) refused(s, "judge(" + n + ", 1001)", BAD, x -> x.judge(n, 1001L));
        long[] noRows = {-1L, 10000L, 10012001L, Long.MIN_VALUE, Long.MAX_VALUE};
        for (long row : noRows) refused(s, "judge(1, " + row + ")", BAD, x -> x.judge(1, row));
    }

    // ---- what is refused in one state alone

    private static void refusedWhenNothingIsThere(State s) {
        refused(s, "undo()", LATE, WordKin::undo);
        for (int slot = 0; slot < 2; slot++) {
            int kept = slot;
            refused(s, "again(" + kept + ")", LATE, x -> x.again(kept));
        }
    }

    private static void refusedWhenFull(State s) {
        refused(s, "write('R')", FULL, x -> x.write('R'));
        refused(s, "write(0)", FULL, x -> x.write(0));
        refused(s, "write(255)", FULL, x -> x.write(255));
        refused(s, "list()", LATE, WordKin::list);
        refused(s, "see(0, 0, 1, 1)", FULL, x -> x.see(0, 0, 1, 1));
        refused(s, "see(2, 4, 5, 0)", FULL, x -> x.see(2, 4, 5, 0));
    }

    // ---- what is only asked

    private static void asked(State s) {
        List<Consumer<WordKin>> questions = List.of(
                x -> x.fault(0), x -> x.fault(1), x -> x.part(0, 0), x -> x.part(1, 0), x -> x.sign(0, 0),
                x -> x.order(0), x -> x.made(0, 0), x -> x.step(0, 0, 1), x -> x.apart(12, 0), x -> x.apart(12, 1),
                x -> x.form(0, 0), x -> x.cross(0, 1), x -> x.best(0), x -> x.best(1), x -> x.best(2),
                x -> x.share(0, true), x -> x.share(1, false), x -> x.which(0), x -> x.which(1),
                x -> x.fails(0, 0, 3, true), x -> x.fails(1, 1, 10, false));
        for (int i = 0; i < questions.size(); i++) dueUntouched(s, "question " + i, questions.get(i));
        for (int what = 0; what <= 9; what++) {
            int asked = what;
            dueUntouched(s, "about(" + what + ")", x -> x.about(asked));
        }
        long[] rows = {1001L, 2005L, 2110L, 3003L, 4001L, 5000L, 6009L, 9999L, 0L};
        for (long row : rows) dueUntouched(s, "judge(1, " + row + ")", x -> x.judge(1, row));
        dueUntouched(s, "four judged", x -> x.judge(4, 1002_2005_2101_1001L));
        dueUntouched(s, "the third can not be", x -> x.judge(4, 1002_2005_1009_1001L));
    }

    /** Behind a draw only the seed is another one: put back, all is as it was. */
    private static void drawn(State s) {
        for (int m = 1; m <= 20; m += 19) {
            int times = m;
            dueUntouched(s, "drawn(" + m + ") and the seed put back", x -> {
                long was = x.seed(0L);
                x.seed(was);
                x.drawn(times);
                the.dueTrue("another seed", x.seed(was) != was);
            });
        }
    }
}
