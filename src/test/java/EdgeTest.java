/** The edges that the promises name, each promise for itself: the last value that is taken, the first that is not. */
public final class EdgeTest {
    private static final int UNKNOWN = -1, BAD = -2, LATE = -3, FULL = -4, NONE = -9;
    private static final int LEAST = Integer.MIN_VALUE, MOST = Integer.MAX_VALUE;
    private static final int[] NO_WORDS = {-1, -8, -10, 6, 7, 9, 10, 16, 50, 60, 61, 101, 110, 501, 555550, 555556,
        555560, 600000, 1000000, 1111111, 1234512, MOST, LEAST};
    private static final Sentences the = new Sentences();

    public static void main(String[] args) {
        newObject();
        write();
        wipe();
        fault();
        faultPart();
        list();
        listOfAFault();
        about();
        part();
        sign();
        order();
        made();
        step();
        apart();
        form();
        swap();
        resign();
        tell();
        undo();
        cross();
        best();
        judge();
        share();
        see();
        seeWhenFull();
        unsee();
        which();
        fails();
        seed();
        drawn();
        keep();
        again();
        lastCall();
        the.dueEachPromise();
        the.end();
    }

    /** Two roots, two endings, three changes: the first of each that there is not is 2, 2, 3. */
    private static WordKin some() {
        return Kin.listed("RabRcEaEbdCab**Cbc*aCa-.*");
    }

    /** As many roots, endings and changes as there may be. */
    private static WordKin all() {
        return Kin.listed("RabRcRdeReEaEbdEcCab**Cbc*aCa-.*Cde**");
    }

    private static void newObject() {
        the.ofPromise(1, "No roots, no endings, no changes.");
        WordKin x = new WordKin();
        for (int what = 0; what <= 9; what++) the.due("about(" + what + ")", x.about(what), 0);
        the.due("part(0, 0)", x.part(0, 0), UNKNOWN);
        the.due("part(1, 0)", x.part(1, 0), UNKNOWN);
        the.due("sign(0, 0)", x.sign(0, 0), UNKNOWN);
        the.due("order(0)", x.order(0), UNKNOWN);
        the.due("apart(0, 0)", x.apart(0, 0), 0);
        the.due("best(2)", x.best(2), 1);
        the.due("undo()", x.undo(), LATE);
        the.due("unsee()", x.unsee(), 0);
        the.due("again(0)", x.again(0), LATE);
        the.due("again(1)", x.again(1), LATE);
        the.due("seed(0)", x.seed(0L), 0);
    }

    private static void write() {
        the.ofPromise(2, "A letter (0 .. 255) comes behind THE TEXT: how long it is. BAD; FULL: there are 60.");
        WordKin x = new WordKin();
        the.due("write(-1)", x.write(-1), BAD);
        the.due("write(256)", x.write(256), BAD);
        the.due("write(least)", x.write(LEAST), BAD);
        the.due("write(most)", x.write(MOST), BAD);
        the.due("write(0)", x.write(0), 1);
        the.due("write(255)", x.write(255), 2);
        for (int i = 3; i <= 60; i++) the.due("letter " + i, x.write('a'), i);
        the.due("letter 61", x.write('a'), FULL);
        the.due("letter 61, and bad", x.write(256), BAD);
        the.due("letter 61, and bad", x.write(-1), BAD);
        // a letter comes behind the others, so each of them can be told by what is listed
        WordKin told = Kin.listed("RabcdEed");
        the.due("one behind the other", told.made(0, 0), 123454);
    }

    private static void wipe() {
        the.ofPromise(3, "THE TEXT is empty: how long it was.");
        WordKin x = new WordKin();
        the.due("of nothing", x.wipe(), 0);
        x.write('R');
        the.due("of one letter", x.wipe(), 1);
        for (int i = 0; i < 60; i++) x.write('R');
        the.due("of a full text", x.wipe(), 60);
        the.due("empty then", x.about(9), 0);
        the.due("no fault then", x.fault(0), NONE);
        the.due("room then", x.write('R'), 1);
        WordKin listed = some();
        listed.swap(0, 2);
        listed.tell(1, 1, 5);
        listed.see(0, 0, 1, 1);
        listed.keep(0);
        the.due("of a list's text", listed.wipe(), 25);
        the.due("the list stays", listed.part(0, 0), 12);
        the.due("the order stays", listed.order(0), 2);
        the.due("the form stays", listed.form(1, 1), 5);
        the.due("the doings stay", listed.about(7), 2);
        the.due("what was seen stays", listed.about(8), 1);
        the.due("what was kept stays", listed.again(0), 1);
    }

    private static void fault() {
        the.ofPromise(4, "FAULT (what = 0); the number of the PART in which it is, from 0 on");
        WordKin x = Kin.written("RaR");
        the.due("fault(0)", x.fault(0), 3);
        the.due("fault(1)", x.fault(1), 1);
        int[] bad = {-1, 2, LEAST, MOST};
        for (int what : bad) the.due("fault(" + what + ")", x.fault(what), BAD);
        WordKin none = new WordKin();
        for (int what : bad) the.due("of no text: fault(" + what + ")", none.fault(what), BAD);
    }

    private static void faultDue(String text, int place, int part) {
        WordKin x = Kin.written(text);
        the.due("fault(0) of " + text, x.fault(0), place);
        the.due("fault(1) of " + text, x.fault(1), part);
    }

    private static void faultPart() {
        the.ofPromise(4, "a LETTER too many,");
        faultDue("Rabcde", 5, 0);
        faultDue("Eabc", 3, 0);
        faultDue("RaEbRabcdeEa", 9, 2);
        the.ofPromise(4, "or one that is none where a ROOT, an ENDING has none yet,");
        faultDue("R?", 1, 0);
        faultDue("RR", 1, 0);
        faultDue("RaE-", 3, 1);
        faultDue("RaEE", 3, 1);
        the.ofPromise(4, "or where a SIGN must be: of this PART;");
        faultDue("C-", 1, 0);
        faultDue("CaR", 2, 0);
        faultDue("RaCab-", 5, 1);
        faultDue("RaCab*C", 6, 1);
        the.ofPromise(4, "any other one that begins no PART: of that which would begin there;");
        faultDue("a", 0, 0);
        faultDue("*", 0, 0);
        faultDue("Ra*", 2, 1);
        faultDue("Rabcd*", 5, 1);
        faultDue("Eab.", 3, 1);
        faultDue("Cab**a", 5, 1);
        faultDue("RaRbRcRdR", 8, 4);
        faultDue("EaEbEcE", 6, 3);
        faultDue("Cab**Cab**Cab**Cab**C", 20, 4);
        faultDue("Cab**RaRbRcRdEaEbEcCab**Cab**Cab**a", 34, 11);
        the.ofPromise(4, "at the end: of the last one); NONE: none.");
        faultDue("R", 1, 0);
        faultDue("RaE", 3, 1);
        faultDue("RaEbC", 5, 2);
        faultDue("RaEbCab*", 8, 2);
        faultDue("RaRbRcRdEaEbEcCab**Cab**Cab**Cab*", 33, 10);
        faultDue("", NONE, NONE);
        faultDue("RaRbRcRdEaEbEcCab**Cab**Cab**Cab**", NONE, NONE);
    }

    private static void list() {
        the.ofPromise(5, "(THE ORDER as at first, no FORMS, no DOINGS; what was kept is gone; SEEN, THE SEED stay)");
        WordKin x = some();
        x.swap(0, 2);
        x.resign(1, 1, 0);
        x.tell(0, 0, 5);
        x.tell(1, 1, 5);
        x.keep(0);
        x.keep(1);
        for (int i = 0; i < 6; i++) x.see(1, i % 5, 1, 0);
        x.seed(-5L);
        the.due("how many parts", x.list(), 7);
        for (int place = 0; place < 3; place++) the.due("order", x.order(place), place);
        the.due("sign", x.sign(1, 1), 3);
        the.due("the first form", x.form(0, 0), NONE);
        the.due("the last form", x.form(1, 1), NONE);
        the.due("forms", x.about(6), 0);
        the.due("doings", x.about(7), 0);
        the.due("undo()", x.undo(), LATE);
        the.due("again(0)", x.again(0), LATE);
        the.due("again(1)", x.again(1), LATE);
        the.due("seen", x.about(8), 6);
        the.due("seed", x.seed(0L), -5);
        the.due("text", x.about(9), 25);
        x.wipe();
        the.due("of an empty text", x.list(), 0);
        for (int what = 0; what <= 4; what++) the.due("then about(" + what + ")", x.about(what), 0);
        the.due("seen all the same", x.about(8), 6);
    }

    private static void listOfAFault() {
        the.ofPromise(5, "how many PARTS. LATE: a FAULT.");
        the.due("no parts", Kin.written("").list(), 0);
        the.due("one part", Kin.written("Ra").list(), 1);
        the.due("eleven parts", Kin.written("RabRcRdeReEaEbdEcCab**Cbc*aCa-.*Cde**").list(), 11);
        String[] faults = {"?", "R", "E", "C", "Cab*", "Rabcde", "Eabc", "RaRbRcRdRe", "EaEbEcEd", "Ra?", "RaC"};
        for (String text : faults) {
            WordKin x = some();
            x.wipe();
            Kin.write(x, text);
            the.due("list() of " + text, x.list(), LATE);
            the.due("the list stays", x.about(0) * 100 + x.about(1) * 10 + x.about(2), 223);
            the.due("its words stay", x.made(1, 1), 324);
        }
    }

    private static void about() {
        the.ofPromise(6, "ROOTS (what = 0), ENDINGS (1), CHANGES (2), unlike WORDS that are MADE (3)");
        WordKin full = Kin.listed("RaRbRcRdEaEbEcCee**Cee**Cee**Cee**");
        the.due("about(0)", full.about(0), 4);
        the.due("about(1)", full.about(1), 3);
        the.due("about(2)", full.about(2), 4);
        the.due("about(3)", full.about(3), 12);
        the.due("one word", Kin.listed("RaRaRaRaEaEaEa").about(3), 1);
        the.due("no endings, no words", Kin.listed("RaRb").about(3), 0);
        the.due("no roots, no words", Kin.listed("EaEb").about(3), 0);
        the.ofPromise(6, "ACTIVE CHANGES (4: bits), EXCEPTIONS (5), FORMS that are told (6), DOINGS (7), SEEN (8),"
                + " letters of THE TEXT (9). BAD.");
        the.due("none active", full.about(4), 0);
        the.due("the last alone", Kin.listed("RaEaCee**Cee**Cee**Cab**").about(4), 8);
        for (int i = 0; i < 12; i++) full.tell(i / 3, i % 3, 5);
        the.due("about(5)", full.about(5), 12);
        the.due("about(6)", full.about(6), 12);
        the.due("about(7)", full.about(7), 12);
        for (int i = 0; i < 9; i++) full.swap(0, 1);
        the.due("about(7), full", full.about(7), 14);
        for (int i = 0; i < 9; i++) full.see(0, 0, 1, 1);
        the.due("about(8), full", full.about(8), 6);
        for (int i = 0; i < 60; i++) full.write('x');
        the.due("about(9), full", full.about(9), 60);
        int[] bad = {-1, 10, 11, LEAST, MOST};
        for (int what : bad) the.due("about(" + what + ")", full.about(what), BAD);
    }

    private static void part() {
        the.ofPromise(7, "LETTERS of a ROOT (kind = 0), of an ENDING (1), as figures. BAD: kind; UNKNOWN.");
        WordKin x = all();
        int[] roots = {12, 3, 45, 5};
        int[] endings = {1, 24, 3};
        for (int i = 0; i < 4; i++) the.due("part(0, " + i + ")", x.part(0, i), roots[i]);
        for (int i = 0; i < 3; i++) the.due("part(1, " + i + ")", x.part(1, i), endings[i]);
        int[] unknown = {-1, 4, LEAST, MOST};
        for (int i : unknown) the.due("part(0, " + i + ")", x.part(0, i), UNKNOWN);
        the.due("part(1, 3)", x.part(1, 3), UNKNOWN);
        for (int i : unknown) the.due("part(1, " + i + ")", x.part(1, i), UNKNOWN);
        int[] bad = {-1, 2, LEAST, MOST};
        for (int kind : bad) {
            the.due("part(" + kind + ", 0)", x.part(kind, 0), BAD);
            the.due("part(" + kind + ", 9)", x.part(kind, 9), BAD);
        }
        Kin.listAnew(x, "RabEc");
        the.due("a root that is no more", x.part(0, 1), UNKNOWN);
        the.due("an ending that is no more", x.part(1, 1), UNKNOWN);
    }

    private static void sign() {
        the.ofPromise(8, "A SIGN of a CHANGE (0 FROM, 1 TO, 2 AHEAD, 3 BEHIND). UNKNOWN; BAD.");
        WordKin x = some();
        int[] signs = {1, 2, 6, 6, 2, 3, 6, 1, 1, 0, 7, 6};
        for (int i = 0; i < 12; i++) the.due("sign(" + i / 4 + ", " + i % 4 + ")", x.sign(i / 4, i % 4), signs[i]);
        int[] unknown = {-1, 3, 4, LEAST, MOST};
        int[] bad = {-1, 4, 5, LEAST, MOST};
        for (int change : unknown) the.due("sign(" + change + ", 0)", x.sign(change, 0), UNKNOWN);
        for (int which : bad) the.due("sign(2, " + which + ")", x.sign(2, which), BAD);
        for (int i = 0; i < 5; i++) the.due("both", x.sign(unknown[i], bad[i]), UNKNOWN);
        Kin.listAnew(x, "Cab**");
        the.due("a change that is no more", x.sign(1, 0), UNKNOWN);
    }

    private static void order() {
        the.ofPromise(9, "Which CHANGE has a place of THE ORDER (from 0). UNKNOWN.");
        WordKin x = all();
        x.swap(0, 3);
        int[] order = {3, 1, 2, 0};
        for (int place = 0; place < 4; place++) the.due("order(" + place + ")", x.order(place), order[place]);
        int[] unknown = {-1, 4, LEAST, MOST};
        for (int place : unknown) the.due("order(" + place + ")", x.order(place), UNKNOWN);
        the.due("of three", some().order(3), UNKNOWN);
        the.due("of none", new WordKin().order(0), UNKNOWN);
    }

    private static void made() {
        the.ofPromise(10, "What is MADE. UNKNOWN: root, ending.");
        WordKin x = Kin.listed("RaRbRcRddddEaEbEccCaa**");
        the.due("the first", x.made(0, 0), 11);
        the.due("the last", x.made(3, 2), 444433);
        int[] unknown = {-1, 4, LEAST, MOST};
        for (int i : unknown) {
            the.due("made(" + i + ", 0)", x.made(i, 0), UNKNOWN);
            the.due("made(0, " + i + ")", x.made(0, i), UNKNOWN);
            the.due("made(" + i + ", " + i + ")", x.made(i, i), UNKNOWN);
        }
        the.due("made(0, 3)", x.made(0, 3), UNKNOWN);
        the.due("made(2, 0) of two roots", some().made(2, 0), UNKNOWN);
        the.due("made(0, 2) of two endings", some().made(0, 2), UNKNOWN);
        the.due("no roots", Kin.listed("Ea").made(0, 0), UNKNOWN);
        the.due("no endings", Kin.listed("Ra").made(0, 0), UNKNOWN);
    }

    private static void step() {
        the.ofPromise(11, "STEP k. UNKNOWN: root, ending; BAD: k (0 .. how many CHANGES).");
        WordKin x = some();
        // aba becomes bbb by the first change and stays so; cbd stays as it is
        the.due("step(0, 0, 0)", x.step(0, 0, 0), 121);
        the.due("step(0, 0, 3)", x.step(0, 0, 3), 222);
        the.due("step(1, 1, 3)", x.step(1, 1, 3), 324);
        int[] bad = {-1, 4, LEAST, MOST};
        int[] unknown = {-1, 2, LEAST, MOST};
        for (int k : bad) the.due("step(0, 0, " + k + ")", x.step(0, 0, k), BAD);
        for (int i : unknown) {
            the.due("step(" + i + ", 0, 0)", x.step(i, 0, 0), UNKNOWN);
            the.due("step(0, " + i + ", 0)", x.step(0, i, 0), UNKNOWN);
            for (int k : bad) {
                the.due("root " + i + " and k " + k, x.step(i, 0, k), UNKNOWN);
                the.due("ending " + i + " and k " + k, x.step(0, i, k), UNKNOWN);
            }
        }
        WordKin none = Kin.listed("RaEa");
        the.due("no changes: step 0", none.step(0, 0, 0), 11);
        the.due("no changes: step 1", none.step(0, 0, 1), BAD);
        the.due("four changes: step 4", all().step(3, 0, 4), 52);
        the.due("four changes: step 5", all().step(3, 0, 5), BAD);
    }

    private static void apart() {
        the.ofPromise(12, "into how many (what = 0), the first as 10 times ROOT and ENDING (1; the least; NONE)."
                + " BAD: word (0, or 1 .. 6 figures 1 .. 5), what.");
        WordKin x = Kin.listed("RaRabcdReeeeEaEeeCa-**");
        the.due("555555: how many", x.apart(555555, 0), 1);
        the.due("555555: the first", x.apart(555555, 1), 21);
        the.due("0: how many", x.apart(0, 0), 1);
        the.due("0: the first", x.apart(0, 1), 0);
        the.due("111111: how many", x.apart(111111, 0), 0);
        the.due("111111: the first", x.apart(111111, 1), NONE);
        the.due("1: how many", x.apart(1, 0), 0);
        for (int word : NO_WORDS) {
            the.due("apart(" + word + ", 0)", x.apart(word, 0), BAD);
            the.due("apart(" + word + ", 1)", x.apart(word, 1), BAD);
        }
        the.due("NONE is no word here", x.apart(NONE, 0), BAD);
        int[] bad = {-1, 2, LEAST, MOST};
        for (int what : bad) the.due("apart(0, " + what + ")", x.apart(0, what), BAD);
        for (int what : bad) the.due("apart(6, " + what + ")", x.apart(6, what), BAD);
        the.due("nothing there: how many", new WordKin().apart(0, 0), 0);
        the.due("nothing there: the first", new WordKin().apart(0, 1), NONE);
        the.due("two, the least", Kin.listed("RbRabRaEcEbc").apart(123, 1), 10);
    }

    private static void form() {
        the.ofPromise(13, "The FORM of a ROOT and an ENDING; NONE: none is told. UNKNOWN.");
        WordKin x = all();
        the.due("none", x.form(0, 0), NONE);
        the.due("none", x.form(3, 2), NONE);
        x.tell(3, 2, 0);
        x.tell(0, 0, 555555);
        the.due("no letters is a form", x.form(3, 2), 0);
        the.due("six letters", x.form(0, 0), 555555);
        the.due("its neighbour has none", x.form(3, 1), NONE);
        int[] unknown = {-1, 4, LEAST, MOST};
        for (int i : unknown) {
            the.due("form(" + i + ", 0)", x.form(i, 0), UNKNOWN);
            the.due("form(0, " + i + ")", x.form(0, i), UNKNOWN);
        }
        the.due("form(0, 3)", x.form(0, 3), UNKNOWN);
        the.due("form(2, 0) of two roots", some().form(2, 0), UNKNOWN);
        the.due("form(0, 2) of two endings", some().form(0, 2), UNKNOWN);
        the.due("nothing there", new WordKin().form(0, 0), UNKNOWN);
    }

    private static void swap() {
        the.ofPromise(14, "SWAPPED: unlike WORDS that are MADE then. UNKNOWN: i, k.");
        WordKin x = Kin.listed("RaRbEcCab**Cbc**Ccc**Ccc**");
        the.due("one word before", x.about(3), 1);
        the.due("swap(0, 3)", x.swap(0, 3), 2);
        the.due("swap(3, 0)", x.swap(3, 0), 1);
        the.due("swap(3, 3)", x.swap(3, 3), 1);
        int[] unknown = {-1, 4, LEAST, MOST};
        for (int i : unknown) {
            the.due("swap(" + i + ", 0)", x.swap(i, 0), UNKNOWN);
            the.due("swap(0, " + i + ")", x.swap(0, i), UNKNOWN);
            the.due("swap(" + i + ", " + i + ")", x.swap(i, i), UNKNOWN);
        }
        the.due("doings", x.about(7), 3);
        the.due("of three: swap(2, 3)", some().swap(2, 3), UNKNOWN);
        the.due("no words", Kin.listed("Cab**").swap(0, 0), 0);
        the.due("no changes", Kin.listed("RaEa").swap(0, 0), UNKNOWN);
        for (int i = 0; i < 20; i++) the.dueTrue("also when the row is full", x.swap(0, 1) >= 1);
        the.due("a full row", x.about(7), 14);
    }

    private static void resign() {
        the.ofPromise(15, "SIGNED: what it was. UNKNOWN: change; BAD: which, v.");
        WordKin x = all();
        the.due("the first sign", x.resign(0, 0, 5), 1);
        the.due("the last sign", x.resign(3, 3, 7), 6);
        the.due("the same sign", x.resign(3, 3, 7), 7);
        the.due("doings", x.about(7), 3);
        int[] unknown = {-1, 4, LEAST, MOST};
        int[] badWhich = {-1, 4, LEAST, MOST};
        for (int change : unknown) {
            the.due("resign(" + change + ", 0, 1)", x.resign(change, 0, 1), UNKNOWN);
            the.due("and which", x.resign(change, 4, 1), UNKNOWN);
            the.due("and v", x.resign(change, 0, 9), UNKNOWN);
        }
        for (int which : badWhich) the.due("resign(0, " + which + ", 1)", x.resign(0, which, 1), BAD);
        int[][] badV = {
            {0, 6, -1, LEAST, MOST}, {-1, 6, 7, LEAST, MOST}, {0, 8, -1, LEAST, MOST}, {0, 8, -1, LEAST, MOST}};
        for (int which = 0; which < 4; which++) {
            for (int v : badV[which]) the.due("resign(3, " + which + ", " + v + ")", x.resign(3, which, v), BAD);
        }
        the.due("doings then", x.about(7), 3);
        the.due("of three: resign(3, 0, 1)", some().resign(3, 0, 1), UNKNOWN);
        the.due("of none", new WordKin().resign(0, 0, 1), UNKNOWN);
    }

    private static void tell() {
        the.ofPromise(16, "FORMED: EXCEPTIONS then. UNKNOWN: root, ending;"
                + " BAD: word (NONE: none any more; else as told).");
        WordKin x = all();
        the.due("the first: no letters", x.tell(0, 0, 0), 1);
        the.due("the last: six letters", x.tell(3, 2, 555555), 2);
        the.due("none any more", x.tell(0, 0, NONE), 1);
        the.due("form", x.form(0, 0), NONE);
        the.due("none where none is", x.tell(0, 1, NONE), 1);
        the.due("doings", x.about(7), 4);
        int[] unknown = {-1, 4, LEAST, MOST};
        for (int i : unknown) {
            the.due("tell(" + i + ", 0, 1)", x.tell(i, 0, 1), UNKNOWN);
            the.due("tell(0, " + i + ", 1)", x.tell(0, i, 1), UNKNOWN);
            the.due("root, and word", x.tell(i, 0, 6), UNKNOWN);
            the.due("ending, and word", x.tell(0, i, -1), UNKNOWN);
            the.due("root, none any more", x.tell(i, 0, NONE), UNKNOWN);
        }
        the.due("tell(0, 3, 1)", x.tell(0, 3, 1), UNKNOWN);
        for (int word : NO_WORDS) the.due("tell(3, 2, " + word + ")", x.tell(3, 2, word), BAD);
        the.due("form then", x.form(3, 2), 555555);
        the.due("doings then", x.about(7), 4);
        the.due("of two roots", some().tell(2, 0, 1), UNKNOWN);
        the.due("of two endings", some().tell(0, 2, 1), UNKNOWN);
    }

    private static void undo() {
        the.ofPromise(17, "The last DOING is undone: how many are left. LATE: there is none.");
        WordKin x = some();
        the.due("none yet", x.undo(), LATE);
        x.tell(0, 0, 1);
        the.due("one", x.undo(), 0);
        the.due("none any more", x.undo(), LATE);
        the.due("form", x.form(0, 0), NONE);
        for (int i = 0; i < 14; i++) x.swap(0, 1);
        for (int left = 13; left >= 0; left--) the.due("left", x.undo(), left);
        the.due("none left", x.undo(), LATE);
        x.resign(0, 0, 2);
        x.resign(0, 0, 9);
        the.due("what was refused is no doing", x.undo(), 0);
        the.due("sign", x.sign(0, 0), 1);
        the.due("an undo is no doing", x.undo(), LATE);
    }

    private static void cross() {
        the.ofPromise(18, "1 if two CHANGES CROSS, 0. UNKNOWN: both.");
        WordKin x = Kin.listed("RaEaCee**Cee**Cab**Cbc**");
        the.due("the last two", x.cross(2, 3), 1);
        the.due("the other way round", x.cross(3, 2), 1);
        the.due("the first two", x.cross(0, 1), 0);
        the.due("one", x.cross(3, 3), 0);
        int[] unknown = {-1, 4, LEAST, MOST};
        for (int i : unknown) {
            the.due("cross(" + i + ", 0)", x.cross(i, 0), UNKNOWN);
            the.due("cross(0, " + i + ")", x.cross(0, i), UNKNOWN);
            the.due("cross(" + i + ", " + i + ")", x.cross(i, i), UNKNOWN);
        }
        the.due("of three", some().cross(2, 3), UNKNOWN);
        the.due("of none", new WordKin().cross(0, 0), UNKNOWN);
    }

    private static void best() {
        the.ofPromise(19, "EXCEPTIONS (what = 0), ORDER as figures (1; no CHANGES: 0), how many ORDERS (2). BAD.");
        int[] bad = {-1, 3, LEAST, MOST};
        for (int what : bad) the.due("best(" + what + ")", all().best(what), BAD);
        for (int what : bad) the.due("no changes: best(" + what + ")", new WordKin().best(what), BAD);
        the.due("no changes: best(1)", new WordKin().best(1), 0);
        the.due("no changes: best(2)", new WordKin().best(2), 1);
        WordKin x = Kin.listed("RaRbRcRdEaEbEcCab**Cba**");
        for (int i = 0; i < 12; i++) x.tell(i / 3, i % 3, 0);
        the.due("all twelve", x.best(0), 12);
        the.due("four changes: best(1)", all().best(1), 123);
        the.due("four changes: best(2)", all().best(2), 24);
    }

    private static void judge() {
        the.ofPromise(20, "JUDGED; NONE. BAD: n, row (0 or more, 4 n figures at most).");
        WordKin x = some();
        int[] badN = {-1, 0, 5, LEAST, MOST};
        for (int n : badN) the.due("judge(" + n + ", 3003)", x.judge(n, 3003L), BAD);
        for (int n : badN) the.due("judge(" + n + ", -1)", x.judge(n, -1L), BAD);
        long figures = 1L;
        for (int n = 1; n <= 4; n++) {
            figures *= 10000L;
            the.due("n " + n + ", row 0", x.judge(n, 0L), 0);
            the.due("n " + n + ", row -1", x.judge(n, -1L), BAD);
            the.due("n " + n + ", the least row", x.judge(n, Long.MIN_VALUE), BAD);
            the.due("n " + n + ", the most figures", x.judge(n, figures - 1), 0);
            the.due("n " + n + ", one figure more", x.judge(n, figures), BAD);
            the.due("n " + n + ", the most row", x.judge(n, Long.MAX_VALUE), BAD);
        }
        // 10 to the 19th would be taken for a small number if it wrapped
        the.due("19 figures", x.judge(4, 1_000_000_000_000_003_003L), BAD);
        the.due("four figures", x.judge(1, 3003L), NONE);
        the.due("sixteen figures", x.judge(4, 3003_1001_1002_6000L), NONE);
    }

    private static void share() {
        the.ofPromise(21, "SHARE. UNKNOWN.");
        WordKin x = Kin.listed("RaRbEaCee**Cee**Cee**Cab**");
        the.due("share(3, true)", x.share(3, true), -1);
        the.due("share(3, false)", x.share(3, false), 1);
        the.due("share(0, true)", x.share(0, true), 0);
        the.due("share(0, false)", x.share(0, false), 1);
        int[] unknown = {-1, 4, LEAST, MOST};
        for (int i : unknown) {
            the.due("share(" + i + ", true)", x.share(i, true), UNKNOWN);
            the.due("share(" + i + ", false)", x.share(i, false), UNKNOWN);
        }
        the.due("of three", some().share(3, true), UNKNOWN);
        the.due("of none", new WordKin().share(0, true), UNKNOWN);
        // three of four make two words one: what counts is who comes first of them
        WordKin four = Kin.listed("RaRbEaCab**Cba**Cee**Cab**");
        int[] above = {-1, -1, 0, -1};
        int[] below = {3, 3, 1, 3};
        for (int i = 0; i < 4; i++) the.due("of three alike, above", four.share(i, true), above[i]);
        for (int i = 0; i < 4; i++) the.due("of three alike, below", four.share(i, false), below[i]);
    }

    private static void see() {
        the.ofPromise(22, "UNKNOWN: ending; BAD: i (0 .. 4), v (1 .. 5), was (0, 1); FULL: 6.");
        int[] unknown = {-1, 2, LEAST, MOST};
        int[] badI = {-1, 5, LEAST, MOST};
        int[] badV = {0, 6, LEAST, MOST};
        int[] badWas = {-1, 2, LEAST, MOST};
        WordKin x = some();
        for (int i = 0; i < 4; i++) {
            the.due("ending " + unknown[i], x.see(unknown[i], 0, 1, 1), UNKNOWN);
            the.due("ending, and i", x.see(unknown[i], badI[i], 1, 1), UNKNOWN);
            the.due("ending, and v", x.see(unknown[i], 0, badV[i], 1), UNKNOWN);
            the.due("ending, and was", x.see(unknown[i], 0, 1, badWas[i]), UNKNOWN);
            the.due("i " + badI[i], x.see(0, badI[i], 1, 1), BAD);
            the.due("v " + badV[i], x.see(0, 0, badV[i], 1), BAD);
            the.due("was " + badWas[i], x.see(0, 0, 1, badWas[i]), BAD);
        }
        the.due("none yet", x.about(8), 0);
        the.due("the least of all", x.see(0, 0, 1, 0), 1);
        the.due("the most of all", x.see(1, 4, 5, 1), 2);
        the.due("three endings", all().see(2, 0, 1, 1), 1);
        the.due("of three", all().see(3, 0, 1, 1), UNKNOWN);
        the.due("of none", new WordKin().see(0, 0, 1, 1), UNKNOWN);
    }

    private static void seeWhenFull() {
        the.ofPromise(22, "SEEN: how many there are.");
        WordKin x = some();
        for (int i = 1; i <= 6; i++) the.due("see " + i, x.see(0, 0, 1, 1), i);
        the.due("one more", x.see(0, 0, 1, 1), FULL);
        the.due("another one", x.see(1, 4, 5, 0), FULL);
        the.due("full, and i", x.see(0, 5, 1, 1), BAD);
        the.due("full, and v", x.see(0, 0, 6, 1), BAD);
        the.due("full, and was", x.see(0, 0, 1, 2), BAD);
        the.due("full, and ending", x.see(2, 0, 1, 1), UNKNOWN);
        the.due("full, and all", x.see(2, 5, 6, 2), UNKNOWN);
        the.due("six", x.about(8), 6);
        // no a is left by the changes, whatever the root
        the.due("how many roots", x.which(0), 0);
    }

    private static void unsee() {
        the.ofPromise(23, "Nothing is SEEN: how much there was.");
        WordKin x = some();
        the.due("nothing", x.unsee(), 0);
        x.see(0, 0, 5, 1);
        the.due("one", x.unsee(), 1);
        for (int i = 0; i < 7; i++) x.see(0, 0, 5, 1);
        the.due("six", x.unsee(), 6);
        the.due("nothing any more", x.unsee(), 0);
        the.due("about(8)", x.about(8), 0);
        the.due("all roots again", x.which(0), 125);
        the.due("room again", x.see(0, 0, 5, 1), 1);
    }

    private static void which() {
        the.ofPromise(24, "WHICH: how many (what = 0), the first (1); NONE. BAD.");
        WordKin x = Kin.listed("Ea");
        the.due("all", x.which(0), 125);
        the.due("the first of all", x.which(1), 111);
        x.see(0, 0, 1, 1);
        x.see(0, 0, 1, 0);
        the.due("none", x.which(0), 0);
        the.due("the first of none", x.which(1), NONE);
        int[] bad = {-1, 2, LEAST, MOST};
        for (int what : bad) the.due("which(" + what + ")", x.which(what), BAD);
        the.due("nothing there", new WordKin().which(0), 125);
        the.due("nothing there", new WordKin().which(1), 111);
    }

    private static void fails() {
        the.ofPromise(25, "FAILS. UNKNOWN: root, ending; BAD: x.");
        WordKin x = Kin.listed("RcRaEcEaCab**");
        int[] above = {1, 9, 4, 7, 3, 1, 2, 3, 1, 1, 0};
        int[] below = {1, 10, 5, 10, 5, 2, 5, 10, 5, 10, 1};
        for (int tenths = 0; tenths <= 10; tenths++) {
            the.due("by " + tenths + ", above", x.fails(1, 1, tenths, true), above[tenths]);
            the.due("by " + tenths + ", below", x.fails(1, 1, tenths, false), below[tenths]);
            the.due("no change, above", x.fails(0, 0, tenths, true), 1);
            the.due("no change, below", x.fails(0, 0, tenths, false), 1);
        }
        int[] bad = {-1, 11, LEAST, MOST};
        int[] unknown = {-1, 2, LEAST, MOST};
        for (int tenths : bad) {
            the.due("x " + tenths, x.fails(0, 0, tenths, true), BAD);
            the.due("x " + tenths, x.fails(1, 1, tenths, false), BAD);
        }
        for (int i : unknown) {
            the.due("root " + i, x.fails(i, 0, 5, true), UNKNOWN);
            the.due("ending " + i, x.fails(0, i, 5, true), UNKNOWN);
            the.due("root, and x", x.fails(i, 0, 11, true), UNKNOWN);
            the.due("ending, and x", x.fails(0, i, -1, false), UNKNOWN);
        }
        the.due("nothing there", new WordKin().fails(0, 0, 0, true), UNKNOWN);
    }

    private static void seed() {
        the.ofPromise(26, "THE SEED is v: what it was.");
        WordKin x = new WordKin();
        long was = 0L;
        long[] seeds = {1L, -1L, Long.MAX_VALUE, Long.MIN_VALUE, 0L, -9L, 1L << 32};
        for (long v : seeds) {
            the.due("seed(" + v + ")", x.seed(v), was);
            was = v;
        }
        the.due("the last one", x.seed(0L), was);
    }

    private static void drawn() {
        the.ofPromise(27, "DRAWN. BAD: m.");
        WordKin x = new WordKin();
        for (int m = 1; m <= 20; m++) the.due("drawn(" + m + ")", x.drawn(m), 4 * m);
        x.seed(3L);
        int[] bad = {-1, 0, 21, LEAST, MOST};
        for (int m : bad) the.due("drawn(" + m + ")", x.drawn(m), BAD);
        the.due("the seed is as it was", x.seed(0L), 3);
        WordKin gone = Kin.listed("Cab**Cbc**Ccd**Cd-**");
        WordKin es = Kin.listed("Cab**Cbc**Cce**Cde**");
        int left = gone.drawn(20);
        the.dueTrue("e alone is left", left >= 0 && left < 80);
        the.due("none is gone", es.drawn(20), 80);
    }

    private static void keep() {
        the.ofPromise(28, "They are kept: how many FORMS are told. UNKNOWN.");
        WordKin x = all();
        the.due("no forms", x.keep(0), 0);
        for (int i = 0; i < 12; i++) x.tell(i / 3, i % 3, 1);
        the.due("twelve forms", x.keep(1), 12);
        the.due("once more", x.keep(0), 12);
        int[] unknown = {-1, 2, 3, LEAST, MOST};
        for (int slot : unknown) the.due("keep(" + slot + ")", x.keep(slot), UNKNOWN);
        the.due("nothing there", new WordKin().keep(0), 0);
        the.due("nothing there", new WordKin().keep(1), 0);
    }

    private static void again() {
        the.ofPromise(29, "They are as they were kept: how many FORMS are told. UNKNOWN; LATE: none were kept.");
        WordKin x = all();
        int[] unknown = {-1, 2, 3, LEAST, MOST};
        for (int slot : unknown) the.due("again(" + slot + "), none kept", x.again(slot), UNKNOWN);
        the.due("again(0), none kept", x.again(0), LATE);
        the.due("again(1), none kept", x.again(1), LATE);
        for (int i = 0; i < 12; i++) x.tell(i / 3, i % 3, 1);
        x.keep(1);
        the.due("again(0), the other kept", x.again(0), LATE);
        the.due("doings stay", x.about(7), 12);
        x.tell(0, 0, NONE);
        x.keep(0);
        the.due("twelve forms", x.again(1), 12);
        the.due("eleven forms", x.again(0), 11);
        the.due("as often as one likes", x.again(0), 11);
        for (int slot : unknown) the.due("again(" + slot + "), both kept", x.again(slot), UNKNOWN);
        WordKin none = new WordKin();
        none.keep(0);
        the.due("nothing was kept", none.again(0), 0);
        x.list();
        the.due("gone with the list", x.again(0), LATE);
        the.due("gone with the list", x.again(1), LATE);
    }

    private static void lastCall() {
        the.of("An object is used for at most 512 calls after it has been made");
        WordKin x = Kin.listed("RaEaCab**");
        int calls = 11;
        while (calls < 511) {
            x.tell(0, 0, 11);
            calls++;
        }
        the.due("call 512", x.undo(), 13);
    }
}
