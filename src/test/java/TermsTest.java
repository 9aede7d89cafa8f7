import java.math.BigInteger;

/** The sentences of the document's "Terms" that name an edge, each with a test of its own. */
public final class TermsTest {
    private static final int UNKNOWN = -1, BAD = -2, LATE = -3, FULL = -4, NONE = -9;
    /** As many parts and letters as a list can have: 49 letters, the last part a change. */
    private static final String LARGEST = "RaaaaRbbbbRccccRddddEaaEbbEccCab**Cbc**Ccd**Cde**";
    private static final Sentences the = new Sentences();

    public static void main(String[] args) {
        letters();
        roots();
        endings();
        changes();
        fourSigns();
        neighbours();
        text();
        parts();
        fault();
        faultWhateverCameBehind();
        faultLengthSetAside();
        faultEnoughParts();
        faultTooManyLetters();
        faultAtTheEnd();
        atFirst();
        words();
        atAllPlacesAtOnce();
        orderAtFirst();
        made();
        forms();
        swappedOnePlace();
        fourteenDoings();
        firstDoingIsForgotten();
        steps();
        takenApart();
        active();
        cross();
        exceptions();
        best();
        judgedCount();
        judgedSwapped();
        judgedSigned();
        judgedMade();
        judgedCross();
        judgedActive();
        judgedExceptions();
        judgedFirstThatCanNotBe();
        share();
        seen();
        which();
        whichWithoutTheEnding();
        fails();
        drawn();
        drawnLetters();
        drawnWraps();
        slots();
        refusals();
        fractions();
        signsTold();
        the.end();
    }

    private static boolean isLetter(int c) {
        return c >= 'a' && c <= 'e';
    }

    private static void letters() {
        the.of("LETTERS are a .. e (1 ..");
        String[] kinds = {"R", "E"};
        for (int kind = 0; kind < 2; kind++) {
            for (int c = 0; c <= 255; c++) {
                WordKin x = Kin.written(kinds[kind] + (char) c);
                the.due("list() of " + kinds[kind] + " and letter " + c, x.list(), isLetter(c) ? 1 : LATE);
                the.due("part()", x.part(kind, 0), isLetter(c) ? c - 'a' + 1 : UNKNOWN);
            }
        }
    }

    private static void roots() {
        the.of("ROOTS are 0 .. 3 (4 at most), of 1 .. 4 LETTERS");
        WordKin none = Kin.listed("EeCab**");
        the.due("none: about(0)", none.about(0), 0);
        the.due("none: part(0, 0)", none.part(0, 0), UNKNOWN);
        the.due("none: made(0, 0)", none.made(0, 0), UNKNOWN);
        WordKin four = Kin.listed("RaRbcRcdeRabcdEe");
        the.due("four: about(0)", four.about(0), 4);
        int[] told = {1, 23, 345, 1234};
        for (int i = 0; i < 4; i++) the.due("four: part(0, " + i + ")", four.part(0, i), told[i]);
        for (int i = 0; i < 4; i++) the.due("four: made(" + i + ", 0)", four.made(i, 0), 10 * told[i] + 5);
        the.due("four: part(0, 4)", four.part(0, 4), UNKNOWN);
        the.due("four: part(0, -1)", four.part(0, -1), UNKNOWN);
        the.due("four: made(4, 0)", four.made(4, 0), UNKNOWN);
        the.due("four: made(-1, 0)", four.made(-1, 0), UNKNOWN);
        the.due("five", Kin.written("RaRbRcRdRe").list(), LATE);
        the.due("no letters", Kin.written("R").list(), LATE);
        the.due("no letters, another part behind", Kin.written("REa").list(), LATE);
        the.due("five letters", Kin.written("Rabcde").list(), LATE);
    }

    private static void endings() {
        the.of("ENDINGS 0 .. 2 (3 at most), of 1 or 2");
        WordKin none = Kin.listed("RaCab**");
        the.due("none: about(1)", none.about(1), 0);
        the.due("none: part(1, 0)", none.part(1, 0), UNKNOWN);
        the.due("none: made(0, 0)", none.made(0, 0), UNKNOWN);
        WordKin three = Kin.listed("EaEbcEdRe");
        the.due("three: about(1)", three.about(1), 3);
        the.due("three: part(1, 0)", three.part(1, 0), 1);
        the.due("three: part(1, 1)", three.part(1, 1), 23);
        the.due("three: part(1, 2)", three.part(1, 2), 4);
        the.due("three: part(1, 3)", three.part(1, 3), UNKNOWN);
        the.due("three: part(1, -1)", three.part(1, -1), UNKNOWN);
        the.due("three: made(0, 2)", three.made(0, 2), 54);
        the.due("three: made(0, 3)", three.made(0, 3), UNKNOWN);
        the.due("three: made(0, -1)", three.made(0, -1), UNKNOWN);
        the.due("four", Kin.written("EaEbEcEd").list(), LATE);
        the.due("no letters", Kin.written("E").list(), LATE);
        the.due("no letters, another part behind", Kin.written("ERa").list(), LATE);
        the.due("three letters", Kin.written("Eabc").list(), LATE);
    }

    private static void changes() {
        the.of("CHANGES 0 .. 3 (4 at most)");
        WordKin none = Kin.listed("RaEb");
        the.due("none: about(2)", none.about(2), 0);
        the.due("none: sign(0, 0)", none.sign(0, 0), UNKNOWN);
        the.due("none: made(0, 0)", none.made(0, 0), 12);
        WordKin four = Kin.listed("Cab**Cbc**Ccd**Cde**");
        the.due("four: about(2)", four.about(2), 4);
        for (int i = 0; i < 4; i++) the.due("four: sign(" + i + ", 0)", four.sign(i, 0), i + 1);
        the.due("four: sign(4, 0)", four.sign(4, 0), UNKNOWN);
        the.due("four: sign(-1, 0)", four.sign(-1, 0), UNKNOWN);
        the.due("five", Kin.written("Cab**Cbc**Ccd**Cde**Cea**").list(), LATE);
    }

    private static void fourSigns() {
        the.of("A CHANGE has four SIGNS: FROM (a LETTER), TO (a LETTER, or - for nothing), AHEAD and BEHIND"
                + " (each a LETTER, * for anything or nothing, . for nothing at all).");
        String told = "-abcde*.";
        String[] may = {"abcde", "-abcde", "abcde*.", "abcde*."};
        for (int which = 0; which < 4; which++) {
            for (int c = 0; c <= 255; c++) {
                boolean taken = may[which].indexOf(c) >= 0;
                String text = "Cab**".substring(0, 1 + which) + (char) c + "ab**".substring(1 + which);
                WordKin x = Kin.written(text);
                the.due("fault(0), sign " + which + " is letter " + c, x.fault(0), taken ? NONE : 1 + which);
                the.due("fault(1), sign " + which + " is letter " + c, x.fault(1), taken ? NONE : 0);
                the.due("list()", x.list(), taken ? 1 : LATE);
                the.due("sign()", x.sign(0, which), taken ? told.indexOf(c) : UNKNOWN);
            }
        }
        for (int signs = 0; signs < 4; signs++) {
            the.due(signs + " signs", Kin.written("Cab**".substring(0, 1 + signs)).list(), LATE);
        }
        the.due("four signs", Kin.written("Cab**").list(), 1);
        the.due("five signs", Kin.written("Cab***").list(), LATE);
    }

    /** What is made of ca, a, ac or of a alone, when a becomes e by these neighbours. */
    private static void neighboursDue(String aheadAndBehind, int both, int first, int last, int alone) {
        the.due(aheadAndBehind + " between c and c", Kin.listed("RcaEcCae" + aheadAndBehind).made(0, 0), both);
        the.due(aheadAndBehind + " at the first place", Kin.listed("RaEcCae" + aheadAndBehind).made(0, 0), first);
        the.due(aheadAndBehind + " at the last place", Kin.listed("RcEaCae" + aheadAndBehind).made(0, 0), last);
        the.due(aheadAndBehind + " alone", Kin.listed("RdEaCd-**Cae" + aheadAndBehind).made(0, 0), alone);
    }

    private static void neighbours() {
        the.of("(each a LETTER, * for anything or nothing, . for nothing at all)");
        neighboursDue("**", 353, 53, 35, 5);
        neighboursDue(".*", 313, 53, 31, 5);
        neighboursDue("*.", 313, 13, 35, 5);
        neighboursDue("..", 313, 13, 31, 5);
        neighboursDue("c*", 353, 13, 35, 1);
        neighboursDue("*c", 353, 53, 31, 1);
        neighboursDue("cc", 353, 13, 31, 1);
        neighboursDue("c.", 313, 13, 35, 1);
        neighboursDue(".c", 313, 53, 31, 1);
        neighboursDue("b*", 313, 13, 31, 1);
        neighboursDue("*d", 313, 13, 31, 1);
    }

    private static void text() {
        the.of("THE TEXT is letters (60 at most).");
        WordKin x = new WordKin();
        the.due("at first", x.about(9), 0);
        for (int i = 1; i <= 60; i++) the.due("letter " + i, x.write('a'), i);
        the.due("one more", x.write('a'), FULL);
        the.due("still 60", x.about(9), 60);
        x.wipe();
        the.due("room again", x.write('a'), 1);
    }

    private static void parts() {
        the.of("PARTS, none or more, in any row, each kind numbered as it is told");
        the.due("none", new WordKin().list(), 0);
        the.due("one", Kin.written("Eab").list(), 1);
        WordKin x = Kin.written("Cab**EcRdCe-..EdRaEbRbcCcd.aRcCdeaa");
        the.due("eleven, mixed", x.list(), 11);
        int[] roots = {4, 1, 23, 3};
        int[] endings = {3, 4, 2};
        int[] froms = {1, 5, 3, 4};
        for (int i = 0; i < 4; i++) the.due("root " + i, x.part(0, i), roots[i]);
        for (int i = 0; i < 3; i++) the.due("ending " + i, x.part(1, i), endings[i]);
        for (int i = 0; i < 4; i++) the.due("from of change " + i, x.sign(i, 0), froms[i]);
    }

    private static void faultDue(String text, int place, int part) {
        WordKin x = Kin.written(text);
        the.due("fault(0) of " + text, x.fault(0), place);
        the.due("fault(1) of " + text, x.fault(1), part);
    }

    private static void fault() {
        the.of("FAULT: the place of the first letter by which THE TEXT can be no LIST");
        faultDue("?", 0, 0);
        faultDue("?R?", 0, 0);
        faultDue("R?E?", 1, 0);
        faultDue("Rab?Eabc", 3, 1);
        faultDue("RabEabcC", 6, 1);
    }

    private static void faultWhateverCameBehind() {
        the.of("whatever came behind it");
        WordKin x = Kin.written("RaE*");
        the.due("fault(0)", x.fault(0), 3);
        Kin.write(x, "abRbCab**");
        the.due("fault(0) with a list behind", x.fault(0), 3);
        for (int length = 14; length <= 60; length++) {
            the.due("letter " + length, x.write('E'), length);
            the.due("fault(0) with more behind", x.fault(0), 3);
        }
        the.due("fault(1) of a full text", x.fault(1), 1);
    }

    private static void faultLengthSetAside() {
        the.of("its length set aside");
        faultDue(LARGEST, NONE, NONE);
        the.due("the largest list", Kin.written(LARGEST).list(), 11);
        for (int c = 0; c <= 255; c++) faultDue(LARGEST + (char) c, 49, 11);
        // Any text of 60 letters goes wrong before its end, so the end itself is no fault.
        faultDue(LARGEST + "RaaaaEaaCab", 49, 11);
    }

    private static void faultEnoughParts() {
        the.of("so a fifth R, E, or C where there are enough");
        faultDue("RaRbRcRd", NONE, NONE);
        faultDue("RaRbRcRdR", 8, 4);
        faultDue("EaEbEc", NONE, NONE);
        faultDue("EaEbEcE", 6, 3);
        faultDue("Cab**Cab**Cab**Cab**", NONE, NONE);
        faultDue("Cab**Cab**Cab**Cab**C", 20, 4);
        faultDue("RaRbRcRdEaR", 10, 5);
        faultDue("EaEbEcRaE", 8, 4);
    }

    private static void faultTooManyLetters() {
        the.of("a letter too many in a ROOT, an ENDING");
        faultDue("Rabcd", NONE, NONE);
        faultDue("Rabcda", 5, 0);
        faultDue("Eab", NONE, NONE);
        faultDue("Eaba", 3, 0);
        faultDue("RabcdEaba", 8, 1);
    }

    private static void faultAtTheEnd() {
        the.of("its length, if it is only not at its end; NONE: none.");
        faultDue("", NONE, NONE);
        faultDue("R", 1, 0);
        faultDue("Ra", NONE, NONE);
        faultDue("E", 1, 0);
        faultDue("Ea", NONE, NONE);
        String largest = "RaaaaRbbbbRccccRddddEaaEbbEccCab**Cbc**Ccd**C";
        for (int signs = 0; signs < 4; signs++) {
            faultDue("Cd-*.".substring(0, 1 + signs), 1 + signs, 0);
            faultDue(largest + "de**".substring(0, signs), 45 + signs, 10);
        }
        faultDue("Cd-*.", NONE, NONE);
    }

    private static void atFirst() {
        the.of("At first there are none.");
        WordKin x = new WordKin();
        the.due("fault(0)", x.fault(0), NONE);
        the.due("fault(1)", x.fault(1), NONE);
        for (int kind = 0; kind <= 2; kind++) the.due("about(" + kind + ")", x.about(kind), 0);
    }

    private static void words() {
        the.of("A WORD is told as figures, its first LETTER first (0: it has none).");
        the.due("abcdea", Kin.listed("RabcdEea").made(0, 0), 123451);
        the.due("one letter", Kin.listed("RabEaCa-**").made(0, 0), 2);
        the.due("none", Kin.listed("RaaEaCa-**").made(0, 0), 0);
        the.due("step 0", Kin.listed("RaaEaCa-**").step(0, 0, 0), 111);
    }

    private static void atAllPlacesAtOnce() {
        the.of("(by the WORD as it was), becomes TO, or is gone");
        the.due("six", Kin.listed("RaaaaEaaCab**").made(0, 0), 222222);
        the.due("six gone", Kin.listed("RaaaaEaaCa-**").made(0, 0), 0);
        the.due("ahead as it was", Kin.listed("RaaaaEaaCaba*").made(0, 0), 122222);
        the.due("behind as it was", Kin.listed("RaaaaEaaCab*a").made(0, 0), 222221);
        the.due("gone, ahead as it was", Kin.listed("RaaaaEaaCa-a*").made(0, 0), 1);
        the.due("gone, behind as it was", Kin.listed("RaabaEaaCa-*a").made(0, 0), 121);
        the.due("what became TO is not gone over again", Kin.listed("RaEbCaa**").made(0, 0), 12);
        the.due("all gone, the next change goes over nothing", Kin.listed("RaEaCa-**Cab**").made(0, 0), 0);
    }

    private static void orderAtFirst() {
        the.of("THE ORDER is a row of all CHANGES, at first by their numbers.");
        the.due("no changes", new WordKin().order(0), UNKNOWN);
        WordKin x = Kin.listed("Cab**Cbc**Ccd**Cde**");
        for (int place = 0; place < 4; place++) the.due("order(" + place + ")", x.order(place), place);
        the.due("order(4)", x.order(4), UNKNOWN);
        the.due("order(-1)", x.order(-1), UNKNOWN);
        x.swap(0, 3);
        Kin.listAnew(x, "Cab**Cbc**Ccd**");
        for (int place = 0; place < 3; place++) the.due("anew: order(" + place + ")", x.order(place), place);
        the.due("anew: order(3)", x.order(3), UNKNOWN);
    }

    private static void made() {
        the.of("the ROOT, then the ENDING, as one WORD, over which CHANGES go by THE ORDER");
        the.due("the shortest", Kin.listed("RaEb").made(0, 0), 12);
        the.due("one letter and two", Kin.listed("RaEbc").made(0, 0), 123);
        the.due("four letters and one", Kin.listed("RabcdEe").made(0, 0), 12345);
        the.due("the longest", Kin.listed("ReeeeEee").made(0, 0), 555555);
        the.due("neighbours over the seam", Kin.listed("RcaEbCaecb").made(0, 0), 352);
        WordKin x = Kin.listed("RaEaCab**Cbc**Ccd**Cde**");
        the.due("by numbers", x.made(0, 0), 55);
        x.swap(0, 3);
        the.due("by the order", x.made(0, 0), 22);
    }

    private static void forms() {
        the.of("another WORD (0 .. 6 LETTERS) may be told beside; at first none is.");
        WordKin x = Kin.listed("RaEb");
        the.due("at first", x.form(0, 0), NONE);
        the.due("at first: about(6)", x.about(6), 0);
        int[] taken = {0, 1, 5, 11, 555, 1111, 54321, 111111, 555555};
        for (int word : taken) {
            the.dueTrue("tell " + word, x.tell(0, 0, word) >= 0);
            the.due("form", x.form(0, 0), word);
            the.due("about(6)", x.about(6), 1);
        }
        int[] refused = {-1, 6, 10, 50, 56, 61, 101, 1234506, 555556, 600000, 999999, 1000000, 1111111};
        for (int word : refused) {
            the.due("tell " + word, x.tell(0, 0, word), BAD);
            the.due("form stays", x.form(0, 0), 555555);
        }
    }

    private static void swappedOnePlace() {
        the.of("two places of THE ORDER change what they have (it may be one)");
        WordKin x = Kin.listed("RaEbCab**Cbc**Ccd**");
        for (int i = 0; i < 3; i++) {
            the.due("swap of one place", x.swap(i, i), 1);
            the.due("doings", x.about(7), i + 1);
            for (int place = 0; place < 3; place++) the.due("order stays", x.order(place), place);
        }
        the.due("undo of one place", x.undo(), 2);
        for (int place = 0; place < 3; place++) the.due("order stays", x.order(place), place);
        x.swap(2, 0);
        int[] order = {2, 1, 0};
        for (int place = 0; place < 3; place++) the.due("two places", x.order(place), order[place]);
        // places are told, not the changes that they have
        x.swap(0, 1);
        int[] then = {1, 2, 0};
        for (int place = 0; place < 3; place++) the.due("two places then", x.order(place), then[place]);
    }

    private static void fourteenDoings() {
        the.of("are a row (14 at most; when it is full, the first one is forgotten)");
        for (int many = 0; many <= 45; many++) {
            WordKin x = Kin.listed("RaEb");
            for (int i = 0; i < many; i++) x.tell(0, 0, wordNumber(i));
            int kept = Math.min(many, 14);
            the.due(many + " doings: about(7)", x.about(7), kept);
            for (int left = kept - 1; left >= 0; left--) {
                the.due(many + " doings: undo()", x.undo(), left);
                int last = many - kept + left - 1;
                the.due(many + " doings: form", x.form(0, 0), last < 0 ? NONE : wordNumber(last));
            }
            the.due(many + " doings: one undo more", x.undo(), LATE);
            the.due(many + " doings: then about(7)", x.about(7), 0);
        }
    }

    /** Words of three letters, no two alike. */
    private static int wordNumber(int i) {
        return 111 + 100 * (i / 25 % 5) + 10 * (i / 5 % 5) + i % 5;
    }

    /** Does a doing of a kind that can be seen in the object's first order, sign and form. */
    private static void doOne(WordKin x, int kind) {
        if (kind == 0) x.swap(0, 1);
        if (kind == 1) x.resign(0, 1, 5);
        if (kind == 2) x.tell(0, 0, 5);
    }

    private static int seenOf(WordKin x, int kind) {
        return kind == 0 ? x.order(0) : kind == 1 ? x.sign(0, 1) : x.form(0, 0);
    }

    private static void firstDoingIsForgotten() {
        the.of("when it is full, the first one is forgotten); the last one can be undone");
        int[] before = {0, 2, NONE};
        int[] behind = {1, 5, 5};
        for (int kind = 0; kind < 3; kind++) {
            for (int others = 12; others <= 15; others++) {
                WordKin x = Kin.listed("RaEbEcCab**Cbc**");
                doOne(x, kind);
                for (int i = 0; i < others; i++) x.tell(0, 1, wordNumber(i));
                for (int left = Math.min(others + 1, 14) - 1; left >= 0; left--) the.due("undo()", x.undo(), left);
                the.due("no more to undo", x.undo(), LATE);
                int due = others < 14 ? before[kind] : behind[kind];
                the.due("kind " + kind + ", " + others + " behind it", seenOf(x, kind), due);
            }
        }
    }

    private static void steps() {
        the.of("STEP k: the WORD behind the first k CHANGES of THE ORDER.");
        WordKin x = Kin.listed("RaEaCab**Cbc**Ccd**Cde**");
        int[] words = {11, 22, 33, 44, 55};
        for (int k = 0; k <= 4; k++) the.due("step " + k, x.step(0, 0, k), words[k]);
        the.due("step 5", x.step(0, 0, 5), BAD);
        the.due("step -1", x.step(0, 0, -1), BAD);
        x.swap(0, 1);
        int[] swapped = {11, 11, 22, 22, 22};
        for (int k = 0; k <= 4; k++) the.due("swapped: step " + k, x.step(0, 0, k), swapped[k]);
        WordKin none = Kin.listed("RaEa");
        the.due("no changes: step 0", none.step(0, 0, 0), 11);
        the.due("no changes: step 1", none.step(0, 0, 1), BAD);
    }

    private static void takenApart() {
        the.of("TAKEN APART is a WORD into all ROOTS and ENDINGS of which it is MADE.");
        WordKin none = Kin.listed("RaRb");
        the.due("no endings: how many", none.apart(1, 0), 0);
        the.due("no endings: the first", none.apart(1, 1), NONE);
        WordKin all = Kin.listed("RaRbRcRaEaEbEcCa-**Cb-**Cc-**");
        the.due("all twelve: how many", all.apart(0, 0), 12);
        the.due("all twelve: the first", all.apart(0, 1), 0);
        WordKin last = Kin.listed("RaRaRaRdEaEaEdCa-**");
        the.due("the last alone: how many", last.apart(44, 0), 1);
        the.due("the last alone: the first", last.apart(44, 1), 32);
        the.due("of another root and ending first", last.apart(4, 1), 2);
        the.due("of another root and ending: how many", last.apart(4, 0), 5);
    }

    private static void active() {
        the.of("ACTIVE is a CHANGE, if it makes any WORD other than it was, when it is MADE.");
        the.due("no changes", Kin.listed("RaEa").about(4), 0);
        the.due("no words", Kin.listed("Cab**").about(4), 0);
        the.due("all four", Kin.listed("RaEaCab**Cbc**Ccd**Cde**").about(4), 15);
        the.due("a letter that becomes itself", Kin.listed("RaEaCaa**Cab**").about(4), 2);
        the.due("in the last word alone", Kin.listed("RaRaRaRbEaEaEbCcd**Cec**Cdc**Cbeb.").about(4), 8);
        // what the first change takes away the last one puts back: both are active, though nothing is other at the end
        the.due("put back", Kin.listed("RaEaCab**Cba**").about(4), 3);
    }

    private static void cross() {
        the.of("CROSS do two CHANGES, if of some ROOT and ENDING (as one WORD, no other CHANGE gone over it) both, one"
                + " after the other, make another WORD one way than the other way round.");
        the.due("no words", Kin.listed("RaCab**Cbc**").cross(0, 1), 0);
        WordKin last = Kin.listed("RcRcRcRaEcEcEdCab**Cbc**Ccc**Cda**");
        the.due("by the last root", last.cross(0, 1), 1);
        the.due("the other way round", last.cross(1, 0), 1);
        for (int i = 0; i < 4; i++) the.due("itself", last.cross(i, i), 0);
        // by the last ending alone: d becomes a, which becomes b
        the.due("by the last ending", last.cross(0, 3), 1);
        WordKin none = Kin.listed("RcRcRcRcEcEcEcCab**Cbc**");
        the.due("by none of twelve", none.cross(0, 1), 0);
        Kin.listAnew(last, "RcEcCab**Cbc**");
        the.due("not by roots that are no more", last.cross(0, 1), 0);
        // by THE ORDER change 0 would leave no a for them
        the.due("no other change gone over it", Kin.listed("RaEaCad**Cab**Cac**").cross(1, 2), 1);
    }

    private static void exceptions() {
        the.of("EXCEPTIONS are FORMS that are not what is MADE.");
        WordKin x = Kin.listed("RaRbRcRdEaEbEc");
        the.due("no forms", x.about(5), 0);
        for (int pair = 0; pair < 12; pair++) {
            the.due("as made", x.tell(pair / 3, pair % 3, x.made(pair / 3, pair % 3)), 0);
        }
        the.due("twelve forms, none an exception", x.about(5), 0);
        for (int pair = 0; pair < 12; pair++) {
            the.due("no letters, not as made", x.tell(pair / 3, pair % 3, 0), pair + 1);
        }
        the.due("twelve exceptions", x.about(5), 12);
        the.due("as made: no letters", Kin.listed("RaEaCa-**").tell(0, 0, 0), 0);
    }

    private static void bestDue(WordKin x, int exceptions, int order, int many) {
        the.due("best(0)", x.best(0), exceptions);
        the.due("best(1)", x.best(1), order);
        the.due("best(2)", x.best(2), many);
    }

    private static void best() {
        the.of("of all ORDERS that by which there are fewest EXCEPTIONS, of like ones that which is least as figures");
        bestDue(new WordKin(), 0, 0, 1);
        bestDue(Kin.listed("Cab**"), 0, 0, 1);
        bestDue(Kin.listed("Cab**Cab**"), 0, 1, 2);
        bestDue(Kin.listed("Cab**Cab**Cab**"), 0, 12, 6);
        bestDue(Kin.listed("Cab**Cab**Cab**Cab**"), 0, 123, 24);
        // one order alone: a becomes e only if the changes come by 3, 2, 1, 0
        WordKin last = Kin.listed("RaEaCde**Ccd**Cbc**Cab**");
        last.tell(0, 0, 55);
        bestDue(last, 0, 3210, 1);
        last.swap(0, 3);
        bestDue(last, 0, 3210, 1);
        last.tell(0, 0, 1);
        bestDue(last, 1, 123, 24);
        WordKin first = Kin.listed("RaEaCab**Cbc**");
        first.tell(0, 0, 33);
        bestDue(first, 0, 1, 1);
        WordKin none = Kin.listed("RaRbEa");
        none.tell(0, 0, 0);
        none.tell(1, 0, 21);
        bestDue(none, 1, 0, 1);
    }

    private static void judgeDue(WordKin x, int n, long row, int due) {
        the.due("judge(" + n + ", " + row + ")", x.judge(n, row), due);
    }

    private static void judgedCount() {
        the.of("JUDGED: n doings (1 .. 4), told as four figures each");
        WordKin x = Kin.listed("RaEa");
        long row = 0;
        for (int n = 1; n <= 4; n++) {
            row = 10000 * row + 3002;
            judgeDue(x, n, row, NONE);
            judgeDue(x, n, row - 1, n - 1);
        }
        judgeDue(x, 0, 0, BAD);
        judgeDue(x, 0, 3002, BAD);
        judgeDue(x, 5, 3002, BAD);
        judgeDue(x, -1, 3002, BAD);
        // fewer figures than four each: those in front are 0
        judgeDue(x, 2, 3002, 0);
        for (int kind = 0; kind <= 9; kind++) {
            judgeDue(x, 1, 1000L * kind, kind == 6 ? NONE : 0);
        }
    }

    private static void judgedSwapped() {
        the.of("(1, 0, two places: SWAPPED;");
        WordKin x = Kin.listed("RaEaCab**Cbc**Ccd**");
        for (int i = 0; i <= 9; i++) {
            for (int k = 0; k <= 9; k++) judgeDue(x, 1, 1000 + 10 * i + k, i < 3 && k < 3 ? NONE : 0);
        }
        for (int other = 1; other <= 9; other++) judgeDue(x, 1, 1001 + 100 * other, 0);
        judgeDue(Kin.listed("RaEa"), 1, 1000, 0);
    }

    private static void judgedSigned() {
        the.of("2, a CHANGE, a SIGN (0 FROM, 1 TO, 2 AHEAD, 3 BEHIND), v (as told below): SIGNED;");
        int[] least = {1, 0, 1, 1};
        int[] most = {5, 5, 7, 7};
        for (int change = 0; change <= 9; change++) {
            // another object each time, as one answers 512 calls and no more
            WordKin x = Kin.listed("RaEaCab**Cbc**");
            for (int which = 0; which <= 9; which++) {
                for (int v = 0; v <= 9; v++) {
                    boolean may = change < 2 && which < 4 && v >= least[which] && v <= most[which];
                    judgeDue(x, 1, 2000 + 100 * change + 10 * which + v, may ? NONE : 0);
                }
            }
        }
    }

    private static void judgedMade() {
        the.of("3, a ROOT, an ENDING, v: what is MADE has v LETTERS;");
        int[][] lengths = {{0, 2}, {4, 6}};
        for (int root = 0; root <= 9; root++) {
            WordKin x = Kin.listed("RaRddddEaEddCa-**");
            for (int ending = 0; ending <= 9; ending++) {
                for (int v = 0; v <= 9; v++) {
                    boolean is = root < 2 && ending < 2 && lengths[root][ending] == v;
                    judgeDue(x, 1, 3000 + 100 * root + 10 * ending + v, is ? NONE : 0);
                }
            }
        }
    }

    private static void judgedCross() {
        the.of("4, 0, two CHANGES: they CROSS;");
        WordKin x = Kin.listed("RaEaCab**Cbc**Cee**");
        for (int one = 0; one <= 9; one++) {
            for (int other = 0; other <= 9; other++) {
                boolean theyCross = one + other == 1;
                judgeDue(x, 1, 4000 + 10 * one + other, theyCross ? NONE : 0);
            }
        }
        for (int other = 1; other <= 9; other++) judgeDue(x, 1, 4001 + 100 * other, 0);
    }

    private static void judgedActive() {
        the.of("5, a CHANGE, 0, 0: it is ACTIVE;");
        WordKin x = Kin.listed("RaEaCab**Cac**Cbd**");
        for (int change = 0; change <= 9; change++) {
            judgeDue(x, 1, 5000 + 100 * change, change == 0 || change == 2 ? NONE : 0);
        }
        for (int other = 1; other <= 99; other++) judgeDue(x, 1, 5000 + other, 0);
    }

    private static void judgedExceptions() {
        the.of("6, 0, 0, v: there are v EXCEPTIONS at most");
        WordKin x = Kin.listed("RaRbRcRdEaEbEc");
        for (int exceptions = 0; exceptions <= 12; exceptions++) {
            for (int v = 0; v <= 9; v++) judgeDue(x, 1, 6000 + v, exceptions <= v ? NONE : 0);
            if (exceptions < 12) x.tell(exceptions / 3, exceptions % 3, 0);
        }
        WordKin none = new WordKin();
        judgeDue(none, 1, 6000, NONE);
        for (int other = 1; other <= 99; other++) judgeDue(none, 1, 6000 + 10 * other, 0);
    }

    private static void judgedFirstThatCanNotBe() {
        the.of("the place of the first that can not be (or is not so); NONE: none.");
        WordKin x = Kin.listed("RaEaCab**Cbc**");
        judgeDue(x, 4, 3002_3002_3002_3002L, NONE);
        judgeDue(x, 4, 3003_3002_3002_3002L, 0);
        judgeDue(x, 4, 3002_1002_3002_9999L, 1);
        judgeDue(x, 4, 3002_3002_2006_3003L, 2);
        judgeDue(x, 4, 3002_3002_3002_4000L, 3);
        // those told before hold: signed to go, swapped to the front, so nothing is left
        judgeDue(x, 4, 2010_3000_2015_3002L, NONE);
        judgeDue(x, 3, 1001_5100_3002L, 1);
        the.due("none of it stays: made", x.made(0, 0), 33);
        the.due("none of it stays: doings", x.about(7), 0);
    }

    private static void shareDue(WordKin x, int change, int above, int below) {
        the.due("share(" + change + ", true)", x.share(change, true), above);
        the.due("share(" + change + ", false)", x.share(change, false), below);
    }

    private static void share() {
        the.of("by how many unlike WORDS MADE (of all ROOTS and ENDINGS) there are in the mean more when it has come"
                + " than there were: a FRACTION.");
        shareDue(Kin.listed("Cab**"), 0, 0, 1);
        shareDue(Kin.listed("RaEaCab**"), 0, 0, 1);
        // ae, be, ce, de: each of the first three makes one word like the next, whatever has come; the last one none
        WordKin four = Kin.listed("RaRbRcRdEeCab.*Cbc.*Ccd.*Cde.*");
        shareDue(four, 0, -1, 1);
        shareDue(four, 3, 0, 1);
        // twelve unlike words become one: a, b, c, d are gone
        WordKin twelve = Kin.listed("RaRbRcRdEaEbEcCa-**Cb-**Cc-**Cd-**");
        the.due("twelve unlike words", Kin.listed("RaRbRcRdEaEbEc").about(3), 12);
        the.due("one word", twelve.about(3), 1);
        int together = 0;
        for (int change = 0; change < 4; change++) {
            together += twelve.share(change, true) * 12 / twelve.share(change, false);
        }
        the.due("twelve times all shares together", together, 12 * (1 - 12));
        // that more are there when it has come: the second keeps apart what the first would make one
        WordKin more = Kin.listed("RaRbEaCac.*Cba.*");
        more.swap(0, 1);
        shareDue(more, 0, 0, 1);
        more.swap(0, 1);
        shareDue(more, 0, 1, 2);
        shareDue(more, 1, -1, 2);
    }

    private static void seen() {
        the.of("(0; also if it has not so many): 6 such at most, none at first.");
        WordKin x = Kin.listed("EaEbc");
        the.due("none at first", x.about(8), 0);
        for (int i = 1; i <= 6; i++) the.due("see " + i, x.see(0, 4, 1, 0), i);
        the.due("one more", x.see(0, 4, 1, 0), FULL);
        the.due("six", x.about(8), 6);
        // an ending of one letter makes four in all: there is no letter 4, so it was none
        the.due("it has not so many: was not", x.which(0), 125);
        x.unsee();
        x.see(0, 4, 1, 1);
        the.due("it has not so many: was", x.which(0), 0);
        x.unsee();
        x.see(0, 3, 1, 1);
        the.due("the last one it has", x.which(0), 125);
        x.unsee();
        x.see(1, 4, 3, 1);
        the.due("letter 4 of five", x.which(0), 125);
        x.see(1, 0, 5, 1);
        the.due("letter 0", x.which(0), 25);
        the.due("letter 0: the first", x.which(1), 511);
    }

    private static void which() {
        the.of("how many (125 there are); the first (three figures, the least number); NONE.");
        WordKin x = Kin.listed("Ea");
        the.due("nothing seen: how many", x.which(0), 125);
        the.due("nothing seen: the first", x.which(1), 111);
        for (int i = 0; i < 3; i++) x.see(0, i, 5, 1);
        the.due("the last root alone: how many", x.which(0), 1);
        the.due("the last root alone: the first", x.which(1), 555);
        x.see(0, 2, 5, 0);
        the.due("none: how many", x.which(0), 0);
        the.due("none: the first", x.which(1), NONE);
        x.unsee();
        for (int v = 1; v <= 4; v++) x.see(0, 2, v, 0);
        the.due("was not a, b, c, d: how many", x.which(0), 25);
        the.due("was not a, b, c, d: the first", x.which(1), 115);
        WordKin roots = Kin.listed("RabcEa");
        roots.see(0, 0, 5, 1);
        the.due("unknown, so not of the list's roots", roots.which(1), 511);
    }

    private static void whichWithoutTheEnding() {
        the.of("(of an ENDING that there is not any more nothing is MADE: 0)");
        WordKin x = Kin.listed("EaEbEc");
        x.see(2, 3, 3, 1);
        the.due("there still: was", x.which(0), 125);
        Kin.listAnew(x, "EaEb");
        the.due("not any more: was", x.which(0), 0);
        the.due("not any more: the first", x.which(1), NONE);
        Kin.listAnew(x, "EaEbEc");
        the.due("there again", x.which(0), 125);
        for (int v = 1; v <= 5; v++) {
            WordKin y = Kin.listed("Ea");
            y.see(0, 0, v, 1);
            y.wipe();
            y.list();
            the.due("nothing has no letter " + v, y.which(0), 0);
        }
        x.unsee();
        x.see(2, 3, 3, 0);
        the.due("there still: was not", x.which(0), 0);
        x.wipe();
        x.list();
        the.due("no endings at all: was not", x.which(0), 125);
        the.due("no endings at all: see", x.see(2, 3, 3, 0), UNKNOWN);
    }

    private static void failsDue(WordKin x, int tenths, int above, int below) {
        the.due("fails by " + tenths + ", above", x.fails(0, 0, tenths, true), above);
        the.due("fails by " + tenths + ", below", x.fails(0, 0, tenths, false), below);
    }

    private static void fails() {
        the.of("each CHANGE does not go over a WORD at all by x tenths (0 .. 10), by itself");
        WordKin one = Kin.listed("RaEaCab**");
        failsDue(one, 0, 1, 1);
        failsDue(one, 1, 9, 10);
        failsDue(one, 9, 1, 10);
        failsDue(one, 10, 0, 1);
        failsDue(one, -1, BAD, BAD);
        failsDue(one, 11, BAD, BAD);
        WordKin none = Kin.listed("RaEa");
        failsDue(none, 0, 1, 1);
        failsDue(none, 10, 1, 1);
        WordKin four = Kin.listed("RaEaCab**Cbc**Ccd**Cde**");
        failsDue(four, 0, 1, 1);
        failsDue(four, 1, 6561, 10000);
        failsDue(four, 9, 1, 10000);
        failsDue(four, 10, 0, 1);
        // the same is made if neither goes, and if both go
        failsDue(Kin.listed("RaEaCab**Cba**"), 10, 1, 1);
        failsDue(Kin.listed("RaEaCab**Cba**"), 5, 3, 4);
    }

    private static void drawn() {
        the.of("DRAWN by THE SEED: m times (1 .. 20) x (THE SEED, a long; 0 at first)");
        WordKin x = new WordKin();
        the.due("m 0", x.drawn(0), BAD);
        the.due("m 21", x.drawn(21), BAD);
        the.due("m -1", x.drawn(-1), BAD);
        the.due("the seed at first", x.seed(0L), 0);
        the.due("m 1", x.drawn(1), 4);
        the.due("m 20", x.drawn(20), 80);
        WordKin one = Kin.listed("Ca-**Cb-**");
        WordKin all = Kin.listed("Ca-**Cb-**");
        int together = 0;
        for (int i = 0; i < 20; i++) together += one.drawn(1);
        the.due("twenty times one", all.drawn(20), together);
        the.due("the seed behind", all.seed(0L), one.seed(0L));
    }

    private static long seedAhead(long next) {
        BigInteger times = new BigInteger("6364136223846793005");
        BigInteger and = new BigInteger("1442695040888963407");
        BigInteger room = BigInteger.ONE.shiftLeft(64);
        return BigInteger.valueOf(next).subtract(and).multiply(times.modInverse(room)).mod(room).longValue();
    }

    /** Each change takes the first letter if it and the next one are as told: none is left of that root alone. */
    private static void rootDrawnDue(long upperBits, String root) {
        StringBuilder list = new StringBuilder();
        for (int i = 0; i < 4; i++) {
            list.append("C").append(root.charAt(i)).append("-.").append(i < 3 ? root.charAt(i + 1) : '.');
        }
        long[] lowerBits = {0L, (1L << 33) - 1};
        for (long lower : lowerBits) {
            WordKin x = Kin.listed(list.toString());
            long next = upperBits << 33 | lower;
            x.seed(seedAhead(next));
            the.due("letters left of " + root, x.drawn(1), 0);
            the.due("the seed then", x.seed(0L), next);
        }
    }

    private static void drawnLetters() {
        the.of("of its upper 31 bits what is left by 5, and 1, is the first LETTER");
        rootDrawnDue(0, "aaaa");
        rootDrawnDue(1, "baaa");
        rootDrawnDue(4, "eaaa");
        rootDrawnDue(5, "aaaa");
        rootDrawnDue(7, "caaa");
        the.of("that by 8 (down), left by 5, and 1, the next one, that by 64, that by 512 (down) likewise");
        rootDrawnDue(8, "dbaa");
        rootDrawnDue(39, "eeaa");
        rootDrawnDue(40, "aaaa");
        rootDrawnDue(63, "dcaa");
        rootDrawnDue(64, "edba");
        rootDrawnDue(511, "bdca");
        rootDrawnDue(512, "cedb");
        rootDrawnDue(2048, "dbce");
        rootDrawnDue(2560, "aaaa");
        rootDrawnDue((1L << 31) - 1, "cabd");
        rootDrawnDue(1L << 30, "edbc");
    }

    private static void drawnWraps() {
        the.of("becomes x times 6364136223846793005 and 1442695040888963407 (64 bits, wrapping)");
        long[][] seeds = {
            {0L, 1442695040888963407L}, {1L, 7806831264735756412L}, {-1L, -4921441182957829598L},
            {2L, -4275776585127002199L}, {Long.MAX_VALUE, 4301930853896946210L},
            {Long.MIN_VALUE, -7780676995965812401L}};
        for (long[] seed : seeds) {
            WordKin x = new WordKin();
            x.seed(seed[0]);
            x.drawn(1);
            the.due("behind seed " + seed[0], x.seed(0L), seed[1]);
        }
    }

    private static void slots() {
        the.of("SLOTS 0 .. 1 keep THE ORDER, CHANGES, FORMS (no DOINGS when one goes on).");
        WordKin x = Kin.listed("RaEbCab**Cbc**");
        the.due("keep(-1)", x.keep(-1), UNKNOWN);
        the.due("keep(2)", x.keep(2), UNKNOWN);
        the.due("again(-1)", x.again(-1), UNKNOWN);
        the.due("again(2)", x.again(2), UNKNOWN);
        the.due("keep(0)", x.keep(0), 0);
        x.swap(0, 1);
        x.resign(0, 0, 5);
        x.tell(0, 0, 4);
        the.due("keep(1)", x.keep(1), 1);
        the.due("doings stay when they are kept", x.about(7), 3);
        the.due("again(0)", x.again(0), 0);
        the.due("order", x.order(0), 0);
        the.due("change", x.sign(0, 0), 1);
        the.due("form", x.form(0, 0), NONE);
        the.due("no doings", x.about(7), 0);
        the.due("undo()", x.undo(), LATE);
        x.see(0, 0, 1, 1);
        x.seed(6L);
        x.write('R');
        the.due("again(1)", x.again(1), 1);
        the.due("order", x.order(0), 1);
        the.due("change", x.sign(0, 0), 5);
        the.due("form", x.form(0, 0), 4);
        the.due("no doings", x.about(7), 0);
        the.due("what is seen is not kept, so it stays", x.about(8), 1);
        the.due("nor is the text", x.about(9), 15);
        the.due("nor is the seed", x.seed(0L), 6);
    }

    private static void refusals() {
        the.of("UNKNOWN -1 (there is no such ROOT, ENDING, CHANGE, place, SLOT), BAD -2, LATE -3, FULL -4.");
        the.due("UNKNOWN", WordKin.UNKNOWN, -1);
        the.due("BAD", WordKin.BAD, -2);
        the.due("LATE", WordKin.LATE, -3);
        the.due("FULL", WordKin.FULL, -4);
        the.of("NONE is -9.");
        the.due("NONE", WordKin.NONE, -9);
    }

    private static void fractions() {
        the.of("FRACTIONS are told above (upper = true; less than 0, if they are), below, in least terms.");
        // -1 (from two words to one), shared by two, by three, by four
        shareDue(Kin.listed("RaRbEaCab**"), 0, -1, 1);
        shareDue(Kin.listed("RaRbEaCab**Cba**"), 0, -1, 2);
        shareDue(Kin.listed("RaRbEaCab**Cba**Cab**"), 0, -1, 3);
        shareDue(Kin.listed("RaRbEaCab**Cba**Cab**Cba**"), 0, -1, 4);
        // nothing: 0 of 1
        shareDue(Kin.listed("RaRbEaCab**Cba**Cab**Ccc**"), 3, 0, 1);
        // 8 tenths by 8 tenths, and 10 of 10
        failsDue(Kin.listed("RaEaCab**Cbc**"), 2, 16, 25);
        failsDue(Kin.listed("RaEaCbc**Cbc**"), 2, 1, 1);
        failsDue(Kin.listed("RaEaCab**Cbc**"), 10, 0, 1);
    }

    private static void signsTold() {
        the.of("FROM is 1 .. 5, TO 0 .. 5, AHEAD and BEHIND 1 .. 7.");
        int[] least = {1, 0, 1, 1};
        int[] most = {5, 5, 7, 7};
        for (int which = 0; which < 4; which++) {
            WordKin x = Kin.listed("Cab**");
            int was = x.sign(0, which);
            the.due("one less", x.resign(0, which, least[which] - 1), BAD);
            the.due("one more", x.resign(0, which, most[which] + 1), BAD);
            for (int v = least[which]; v <= most[which]; v++) {
                the.due("resign(0, " + which + ", " + v + ")", x.resign(0, which, v), was);
                the.due("sign(0, " + which + ")", x.sign(0, which), v);
                was = v;
            }
        }
        the.of("SIGNS are told as 1 .. 5 (a .. e), 0 (-), 6 (*), 7 (.);");
        WordKin x = Kin.listed("Ca-*.Cee.*Ccdba");
        int[] told = {1, 0, 6, 7, 5, 5, 7, 6, 3, 4, 2, 1};
        for (int i = 0; i < 12; i++) the.due("sign(" + i / 4 + ", " + i % 4 + ")", x.sign(i / 4, i % 4), told[i]);
    }
}
