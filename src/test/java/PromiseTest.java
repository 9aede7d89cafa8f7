/** For each promise of the document: ordinary inputs, the edges that it names, wrong inputs. */
public final class PromiseTest {
    private static final int UNKNOWN = -1, BAD = -2, LATE = -3, FULL = -4, NONE = -9;
    private static final int LEAST = Integer.MIN_VALUE, MOST = Integer.MAX_VALUE;
    private static final Checks checks = new Checks();

    private static void due(String call, long got, long want) {
        checks.due(call, got, want);
    }

    private static WordKin written(String text) {
        return Kin.written(text);
    }

    private static WordKin listed(String text) {
        return Kin.listed(text);
    }

    private static void listAnew(WordKin x, String text) {
        Kin.listAnew(x, text);
    }

    public static void main(String[] args) {
        promise1();
        promise2and3();
        promise4();
        promise5();
        promise6();
        promise7to9();
        promise10and11();
        promise12();
        promise13and16();
        promise14();
        promise15();
        promise17();
        promise18();
        promise19();
        promise20();
        promise21();
        promise22and23();
        promise24();
        promise25();
        promise26and27();
        promise28and29();
        refusalsChangeNothing();
        checks.end();
    }

    private static void promise1() {
        WordKin x = new WordKin();
        for (int what = 0; what <= 9; what++) due("1 about(" + what + ")", x.about(what), 0);
        due("1 made", x.made(0, 0), UNKNOWN);
        due("1 order", x.order(0), UNKNOWN);
        due("1 part", x.part(1, 0), UNKNOWN);
        due("1 again(0)", x.again(0), LATE);
        due("1 again(1)", x.again(1), LATE);
        due("1 seed", x.seed(3L), 0);
        due("1 UNKNOWN", WordKin.UNKNOWN, UNKNOWN);
        due("1 BAD", WordKin.BAD, BAD);
        due("1 LATE", WordKin.LATE, LATE);
        due("1 FULL", WordKin.FULL, FULL);
        due("1 NONE", WordKin.NONE, NONE);
    }

    private static void promise2and3() {
        WordKin x = new WordKin();
        due("3 wipe of nothing", x.wipe(), 0);
        due("2 write(0)", x.write(0), 1);
        due("2 write(255)", x.write(255), 2);
        due("2 write(-1)", x.write(-1), BAD);
        due("2 write(256)", x.write(256), BAD);
        due("2 write(least)", x.write(LEAST), BAD);
        due("2 write(most)", x.write(MOST), BAD);
        for (int i = 3; i <= 60; i++) due("2 write " + i, x.write('R'), i);
        due("2 the 61st", x.write('R'), FULL);
        due("2 the 61st, and bad", x.write(256), BAD);
        due("2 still 60", x.about(9), 60);
        due("3 wipe", x.wipe(), 60);
        due("3 wipe again", x.wipe(), 0);
        due("2 write behind wipe", x.write('R'), 1);
        WordKin y = listed("RaEb");
        y.wipe();
        due("3 the list outlives the text", y.made(0, 0), 12);
    }

    private static void fault(String text, int place, int part) {
        WordKin x = written(text);
        due("4 fault(0) of " + text, x.fault(0), place);
        due("4 fault(1) of " + text, x.fault(1), part);
        due("4 fault(2) of " + text, x.fault(2), BAD);
        due("4 fault(-1) of " + text, x.fault(-1), BAD);
        due("5 list() of " + text, x.list() >= 0 ? 0 : x.list(), place == NONE ? 0 : LATE);
    }

    private static void promise4() {
        fault("", NONE, NONE);
        fault("Ra", NONE, NONE);
        fault("Rabcd", NONE, NONE);
        fault("Eee", NONE, NONE);
        fault("Ca-*.", NONE, NONE);
        fault("Cee.e", NONE, NONE);
        fault("CabcdEaRbCed**", NONE, NONE);
        fault("RaRbRcRdEaEbEcCab**Cab**Cab**Cab**", NONE, NONE);
        // only not at its end
        fault("R", 1, 0);
        fault("E", 1, 0);
        fault("C", 1, 0);
        fault("RaE", 3, 1);
        fault("RaC", 3, 1);
        fault("RaCa", 4, 1);
        fault("RaCa-", 5, 1);
        fault("RaCa-*", 6, 1);
        // what begins no part
        fault("a", 0, 0);
        fault("?", 0, 0);
        fault("r", 0, 0);
        fault("-", 0, 0);
        fault("Ra?", 2, 1);
        fault("Ra*", 2, 1);
        fault("RaA", 2, 1);
        fault("Raf", 2, 1);
        fault("Ra`", 2, 1);
        fault("Rabcd?", 5, 1);
        fault("Eab-", 3, 1);
        fault("Cab**a", 5, 1);
        fault("Cab***", 5, 1);
        fault("Cab**.", 5, 1);
        // a letter too many
        fault("Rabcde", 5, 0);
        fault("EaRabcdaEb", 7, 1);
        fault("Eabc", 3, 0);
        fault("RaEeee", 5, 1);
        // none where there must be one
        fault("R?", 1, 0);
        fault("RR", 1, 0);
        fault("RE", 1, 0);
        fault("R*", 1, 0);
        fault("RaEC", 3, 1);
        fault("C-", 1, 0);
        fault("C*", 1, 0);
        fault("CC", 1, 0);
        fault("Ca*", 2, 0);
        fault("Ca.", 2, 0);
        fault("CaC", 2, 0);
        fault("Caa-", 3, 0);
        fault("Caa*-", 4, 0);
        fault("Caa*R", 4, 0);
        fault("RaCaa?", 5, 1);
        // more parts than there may be
        fault("RaRbRcRdR", 8, 4);
        fault("RaRbRcRdRe", 8, 4);
        fault("RaRbRcRdEaRe", 10, 5);
        fault("EaEbEcE", 6, 3);
        fault("Cab**Cab**Cab**Cab**C", 20, 4);
        fault("RaRbRcRR", 7, 3);
        // the first of several
        fault("R?C?", 1, 0);
        WordKin x = new WordKin();
        x.write(0);
        due("4 letter 0", x.fault(0), 0);
        WordKin y = new WordKin();
        for (int i = 0; i < 60; i++) y.write(i < 1 ? 'R' : 'b');
        due("4 a full text", y.fault(0), 5);
    }

    private static void promise5() {
        WordKin x = written("RaEbRcCab**EdCba**");
        due("5 parts", x.list(), 6);
        due("5 text stays", x.about(9), 18);
        x.swap(0, 1);
        x.tell(0, 0, 5);
        x.keep(0);
        x.keep(1);
        x.see(1, 0, 1, 0);
        x.seed(77L);
        x.write('?');
        due("5 late", x.list(), LATE);
        due("5 late: order stays", x.order(0), 1);
        due("5 late: forms stay", x.about(6), 1);
        due("5 late: doings stay", x.about(7), 2);
        due("5 late: kept stays", x.again(1), 1);
        x.tell(0, 1, 5);
        listAnew(x, "RaEbRcCab**EdCba**");
        due("5 order", x.order(0), 0);
        due("5 order", x.order(1), 1);
        due("5 forms", x.about(6), 0);
        due("5 form", x.form(0, 0), NONE);
        due("5 doings", x.about(7), 0);
        due("5 undo", x.undo(), LATE);
        due("5 kept 0", x.again(0), LATE);
        due("5 kept 1", x.again(1), LATE);
        due("5 seen", x.about(8), 1);
        due("5 seed", x.seed(0L), 77);
        x.wipe();
        due("5 an empty list", x.list(), 0);
        due("5 no roots", x.about(0), 0);
        due("5 no endings", x.about(1), 0);
        due("5 no changes", x.about(2), 0);
        listAnew(x, "RcdRbEe");
        due("5 another root", x.part(0, 0), 34);
        due("5 another root", x.part(0, 1), 2);
        due("5 another ending", x.part(1, 0), 5);
        due("5 no third root", x.part(0, 2), UNKNOWN);
        due("5 the most parts", listedParts("RaRbRcRdEaEbEcCab**Cab**Cab**Cab**"), 11);
    }

    private static int listedParts(String text) {
        return written(text).list();
    }

    private static void promise6() {
        WordKin x = listed("RaRbRabEaEbCab**Cba**Cc-**");
        due("6 roots", x.about(0), 3);
        due("6 endings", x.about(1), 2);
        due("6 changes", x.about(2), 3);
        // all a become b, then all b become a: aa aa aa aa aaa aaa
        due("6 unlike words", x.about(3), 2);
        due("6 active", x.about(4), 3);
        x.tell(0, 0, 11);
        x.tell(0, 1, 12);
        x.tell(2, 1, 0);
        due("6 exceptions", x.about(5), 2);
        due("6 forms", x.about(6), 3);
        due("6 doings", x.about(7), 3);
        x.see(0, 0, 1, 1);
        due("6 seen", x.about(8), 1);
        due("6 text", x.about(9), 26);
        due("6 about(10)", x.about(10), BAD);
        due("6 about(-1)", x.about(-1), BAD);
        due("6 about(least)", x.about(LEAST), BAD);
        // the word without letters is a word too
        due("6 empty words", listed("RaRbEaEbCa-**Cb-**").about(3), 1);
        due("6 none active without endings", listed("RaCab**").about(4), 0);
        due("6 active in unlike words", listed("RaRbRcEdCae**Cbe**Cda**Cda**").about(4), 7);
        WordKin fewer = listed("RcRaEdCab**");
        due("6 active in the second root", fewer.about(4), 1);
        listAnew(fewer, "RcEdCab**");
        due("6 not in a root that is no more", fewer.about(4), 0);
        // active by the order: behind the first change there is no a any more
        WordKin y = listed("RaEaCab**Cac**");
        due("6 active by the order", y.about(4), 1);
        y.swap(0, 1);
        due("6 active by the other order", y.about(4), 2);
    }

    private static void promise7to9() {
        WordKin x = listed("RabcdReEdEaeCab*.Cc-.eCde**");
        due("7 root 0", x.part(0, 0), 1234);
        due("7 root 1", x.part(0, 1), 5);
        due("7 root 2", x.part(0, 2), UNKNOWN);
        due("7 root -1", x.part(0, -1), UNKNOWN);
        due("7 ending 0", x.part(1, 0), 4);
        due("7 ending 1", x.part(1, 1), 15);
        due("7 ending 2", x.part(1, 2), UNKNOWN);
        due("7 ending most", x.part(1, MOST), UNKNOWN);
        due("7 kind 2", x.part(2, 0), BAD);
        due("7 kind -1", x.part(-1, 9), BAD);
        int[] signs = {1, 2, 6, 7, 3, 0, 7, 5, 4, 5, 6, 6};
        for (int i = 0; i < 12; i++) due("8 sign " + i, x.sign(i / 4, i % 4), signs[i]);
        due("8 change 3", x.sign(3, 0), UNKNOWN);
        due("8 change -1", x.sign(-1, 0), UNKNOWN);
        due("8 which 4", x.sign(0, 4), BAD);
        due("8 which -1", x.sign(0, -1), BAD);
        due("8 both", x.sign(3, 4), UNKNOWN);
        x.swap(0, 2);
        due("8 by its number", x.sign(0, 0), 1);
        due("9 order 0", x.order(0), 2);
        due("9 order 1", x.order(1), 1);
        due("9 order 2", x.order(2), 0);
        due("9 order 3", x.order(3), UNKNOWN);
        due("9 order -1", x.order(-1), UNKNOWN);
        due("9 order least", x.order(LEAST), UNKNOWN);
    }

    private static int madeBy(String change, String root, String ending) {
        return listed("R" + root + "E" + ending + "C" + change).made(0, 0);
    }

    private static void promise10and11() {
        due("10 no change", listed("RabcdEea").made(0, 0), 123451);
        due("10 at all places at once", madeBy("ab**", "aaca", "ad"), 223224);
        due("10 by the word as it was", madeBy("ab*a", "aaaa", "aa"), 222221);
        due("10 by the word as it was, ahead", madeBy("aba*", "aaaa", "aa"), 122222);
        due("10 gone", madeBy("a-**", "abac", "a"), 23);
        due("10 gone by the word as it was", madeBy("a-a*", "aaab", "aa"), 121);
        due("10 all gone", madeBy("a-**", "aa", "a"), 0);
        due("10 ahead", madeBy("abc*", "acaa", "a"), 13211);
        due("10 behind", madeBy("ab*c", "acaa", "c"), 23123);
        due("10 both", madeBy("aecd", "cadc", "a"), 35431);
        due("10 both over the seam", madeBy("aecd", "dca", "d"), 4354);
        due("10 nothing ahead", madeBy("ae.*", "aaaa", "a"), 51111);
        due("10 nothing behind", madeBy("ae*.", "aaaa", "a"), 11115);
        due("10 nothing ahead and behind", madeBy("ae..", "a", "a"), 11);
        due("10 ahead, at the first letter", madeBy("aea*", "a", "b"), 12);
        due("10 behind, at the last letter", madeBy("aea*", "b", "a"), 21);
        due("10 to itself", madeBy("aa**", "ab", "a"), 121);
        WordKin x = listed("RaRbcEdEeaCab**Cbc**Cc-*eCe-c*");
        // ad > bd > cd > cd > cd; aea > beb > cec > ec > ec
        due("10 chain", x.made(0, 0), 34);
        due("10 chain", x.made(0, 1), 53);
        due("11 step 0", x.step(0, 1, 0), 151);
        due("11 step 1", x.step(0, 1, 1), 252);
        due("11 step 2", x.step(0, 1, 2), 353);
        due("11 step 3", x.step(0, 1, 3), 53);
        due("11 step 4", x.step(0, 1, 4), 53);
        due("11 step 5", x.step(0, 1, 5), BAD);
        due("11 step -1", x.step(0, 1, -1), BAD);
        due("11 root", x.step(2, 0, 9), UNKNOWN);
        due("11 ending", x.step(0, 2, 9), UNKNOWN);
        due("11 root -1", x.step(-1, 0, 0), UNKNOWN);
        due("10 root", x.made(2, 0), UNKNOWN);
        due("10 root -1", x.made(-1, 0), UNKNOWN);
        due("10 ending", x.made(0, 2), UNKNOWN);
        due("10 ending -1", x.made(0, -1), UNKNOWN);
        due("10 most", x.made(MOST, MOST), UNKNOWN);
        x.swap(0, 3);
        // by 3, 1, 2, 0: aea > aea > aea > aea > beb
        due("10 by the order", x.made(0, 1), 252);
        due("11 by the order", x.step(0, 1, 3), 151);
    }

    private static void promise12() {
        WordKin x = listed("RaRabRdEbcEcEaCd-**");
        due("12 a + bc and ab + c", x.apart(123, 0), 2);
        due("12 the first", x.apart(123, 1), 0);
        due("12 d + a", x.apart(1, 0), 1);
        due("12 d + a", x.apart(1, 1), 22);
        due("12 none", x.apart(555555, 0), 0);
        due("12 none", x.apart(555555, 1), NONE);
        due("12 no letters", x.apart(0, 0), 0);
        due("12 no letters", x.apart(0, 1), NONE);
        due("12 bare, not made", x.apart(41, 0), 0);
        WordKin y = listed("RdRaReEaEdCd-**");
        due("12 no letters made", y.apart(0, 0), 1);
        due("12 no letters made", y.apart(0, 1), 1);
        int[] bad = {-1, -9, 6, 10, 16, 61, 101, 1111111, 666666, 555556, 600000, 105, 7, 8, 9, MOST, LEAST};
        for (int word : bad) due("12 word " + word, x.apart(word, 0), BAD);
        due("12 six letters", x.apart(111111, 0), 0);
        due("12 what 2", x.apart(123, 2), BAD);
        due("12 what -1", x.apart(123, -1), BAD);
        due("12 nothing there", new WordKin().apart(1, 1), NONE);
    }

    private static void promise13and16() {
        WordKin x = listed("RaRbEcEdCab**");
        due("13 none", x.form(1, 1), NONE);
        due("16 as made", x.tell(0, 0, 23), 0);
        due("16 not as made", x.tell(0, 1, 14), 1);
        due("16 no letters", x.tell(1, 0, 0), 2);
        due("16 six letters", x.tell(1, 1, 555555), 3);
        due("13 form", x.form(0, 0), 23);
        due("13 form", x.form(0, 1), 14);
        due("13 form", x.form(1, 0), 0);
        due("13 form", x.form(1, 1), 555555);
        due("16 told anew", x.tell(1, 1, 24), 2);
        due("13 told anew", x.form(1, 1), 24);
        due("16 none any more", x.tell(0, 1, NONE), 1);
        due("13 none any more", x.form(0, 1), NONE);
        due("16 forms", x.about(6), 3);
        due("16 doings", x.about(7), 6);
        due("16 none where none is", x.tell(0, 1, NONE), 1);
        due("16 it is a doing", x.about(7), 7);
        due("16 root", x.tell(2, 0, 6), UNKNOWN);
        due("16 root -1", x.tell(-1, 0, 1), UNKNOWN);
        due("16 ending", x.tell(0, 2, 6), UNKNOWN);
        due("16 ending -1", x.tell(0, -1, 6), UNKNOWN);
        int[] bad = {-1, -2, -8, -10, 6, 10, 20, 60, 1234561, 1111111, 111110, MOST, LEAST};
        for (int word : bad) due("16 word " + word, x.tell(0, 1, word), BAD);
        due("16 bad is no doing", x.about(7), 7);
        due("13 root", x.form(2, 0), UNKNOWN);
        due("13 ending", x.form(0, 2), UNKNOWN);
        due("13 ending -1", x.form(0, -1), UNKNOWN);
        due("13 root -1", x.form(-1, 0), UNKNOWN);
        WordKin y = listed("RaRbRcRdEaEbEc");
        for (int r = 0; r < 4; r++) for (int e = 0; e < 3; e++) y.tell(r, e, 10 * (r + 1) + e + 1);
        for (int r = 0; r < 4; r++) {
            for (int e = 0; e < 3; e++) due("13 form " + r + " " + e, y.form(r, e), 10 * (r + 1) + e + 1);
        }
        due("16 twelve forms", y.about(6), 12);
    }

    private static void promise14() {
        WordKin x = listed("RaRbEcCab**Cba**");
        due("14 unlike before", x.about(3), 1);
        due("14 swap", x.swap(0, 1), 1);
        due("14 order", x.order(0), 1);
        due("14 made then", x.made(0, 0), 23);
        due("14 one place", x.swap(1, 1), 1);
        due("14 it is a doing", x.about(7), 2);
        due("14 order stays", x.order(1), 0);
        due("14 i", x.swap(2, 0), UNKNOWN);
        due("14 k", x.swap(0, 2), UNKNOWN);
        due("14 i -1", x.swap(-1, 0), UNKNOWN);
        due("14 k -1", x.swap(0, -1), UNKNOWN);
        due("14 no doing", x.about(7), 2);
        WordKin y = listed("RaRbEcCab**Cbc**");
        due("14 one word by the first order", y.about(3), 1);
        due("14 two by the other", y.swap(1, 0), 2);
    }

    private static void promise15() {
        WordKin x = listed("RaEbCab**Ccd.e");
        due("15 from", x.resign(0, 0, 2), 1);
        due("15 to", x.resign(0, 1, 0), 2);
        due("15 ahead", x.resign(1, 2, 6), 7);
        due("15 behind", x.resign(1, 3, 7), 5);
        due("15 made then", x.made(0, 0), 1);
        due("15 the same", x.resign(1, 3, 7), 7);
        due("15 it is a doing", x.about(7), 5);
        int[][] range = {{1, 5}, {0, 5}, {1, 7}, {1, 7}};
        for (int which = 0; which < 4; which++) {
            for (int v = -2; v <= 9; v++) {
                int was = x.sign(0, which);
                boolean may = v >= range[which][0] && v <= range[which][1];
                due("15 " + which + " " + v, x.resign(0, which, v), may ? was : BAD);
                due("15 sign then", x.sign(0, which), may ? v : was);
            }
        }
        due("15 which 4", x.resign(0, 4, 1), BAD);
        due("15 which -1", x.resign(0, -1, 1), BAD);
        due("15 change 2", x.resign(2, 4, 9), UNKNOWN);
        due("15 change -1", x.resign(-1, 0, 1), UNKNOWN);
        due("15 v most", x.resign(0, 0, MOST), BAD);
    }

    private static void promise17() {
        WordKin x = listed("RaEbCab**Cbc**");
        due("17 none", x.undo(), LATE);
        x.tell(0, 0, 4);
        x.tell(0, 0, 5);
        x.tell(0, 0, NONE);
        x.resign(1, 2, 1);
        x.resign(1, 2, 7);
        x.swap(0, 1);
        due("17 swap", x.undo(), 5);
        due("17 order", x.order(0), 0);
        due("17 sign", x.undo(), 4);
        due("17 sign", x.sign(1, 2), 1);
        due("17 sign", x.undo(), 3);
        due("17 sign", x.sign(1, 2), 6);
        due("17 form", x.undo(), 2);
        due("17 form", x.form(0, 0), 5);
        due("17 form", x.undo(), 1);
        due("17 form", x.form(0, 0), 4);
        due("17 form", x.undo(), 0);
        due("17 form", x.form(0, 0), NONE);
        due("17 none left", x.undo(), LATE);
        // fourteen at most: the first ones are forgotten
        for (int i = 0; i < 17; i++) x.tell(0, 0, 10 * (i / 5 + 1) + i % 5 + 1);
        due("17 fourteen", x.about(7), 14);
        for (int left = 13; left >= 0; left--) {
            due("17 left", x.undo(), left);
            int i = left + 2;
            due("17 form behind " + left, x.form(0, 0), 10 * (i / 5 + 1) + i % 5 + 1);
        }
        due("17 late", x.undo(), LATE);
        due("17 what was forgotten stays", x.form(0, 0), 13);
        // a ring that went round takes new ones
        for (int i = 0; i < 30; i++) x.swap(0, 1);
        due("17 full again", x.about(7), 14);
        x.undo();
        due("17 order", x.order(0), 1);
        x.resign(0, 0, 5);
        due("17 a new one", x.about(7), 14);
        x.undo();
        due("17 sign", x.sign(0, 0), 1);
    }

    private static void promise18() {
        WordKin x = listed("RaEbCab**Cbc**Cd-**Ca-*.");
        due("18 cross", x.cross(0, 1), 1);
        due("18 the other way round", x.cross(1, 0), 1);
        due("18 itself", x.cross(0, 0), 0);
        due("18 not", x.cross(0, 2), 0);
        // no a is at the end of ab, whatever comes first
        due("18 only by the words there are", x.cross(1, 3), 0);
        due("18 one", x.cross(4, 0), UNKNOWN);
        due("18 other", x.cross(0, 4), UNKNOWN);
        due("18 -1", x.cross(-1, 0), UNKNOWN);
        due("18 -1", x.cross(0, -1), UNKNOWN);
        due("18 no words", listed("RaCab**Cbc**").cross(0, 1), 0);
        // a change between them would hide it: over the bare word they cross all the same
        due("18 no other change", listed("RaEaCad**Cab**Cac**").cross(1, 2), 1);
        WordKin y = listed("RcReEcEaCab**Cbc**");
        due("18 by some root and ending", y.cross(0, 1), 1);
        listAnew(y, "RcEcCab**Cbc**");
        due("18 not by those that are no more", y.cross(0, 1), 0);
        due("18 a change with itself that goes on", listed("RaaaEaCa-a*").cross(0, 0), 0);
    }

    private static void promise19() {
        WordKin x = listed("RaEbCab**Cbc**");
        due("19 no forms", x.best(0), 0);
        due("19 no forms", x.best(1), 1);
        due("19 no forms", x.best(2), 2);
        x.tell(0, 0, 23);
        // ab: by 0, 1 cc; by 1, 0 bc
        due("19 fewest", x.best(0), 0);
        due("19 the order", x.best(1), 10);
        due("19 how many", x.best(2), 1);
        due("19 nothing is changed", x.order(0), 0);
        due("19 no doing", x.about(7), 1);
        x.tell(0, 0, 5);
        due("19 none fits", x.best(0), 1);
        due("19 the least", x.best(1), 1);
        due("19 all", x.best(2), 2);
        due("19 what 3", x.best(3), BAD);
        due("19 what -1", x.best(-1), BAD);
        WordKin y = listed("RaEaCab**Cbc**Ccd**Cde**");
        y.swap(0, 2);
        y.tell(0, 0, 33);
        // all a become c and no more: 0 and 2 ahead of 1, and 3 anywhere
        due("19 four changes", y.best(0), 0);
        due("19 four changes", y.best(1), 213);
        due("19 four changes", y.best(2), 8);
        y.tell(0, 0, 22);
        // 1 ahead of 0, whatever else
        due("19 half of them", y.best(2), 12);
        due("19 the least of them", y.best(1), 1023);
        WordKin z = listed("RaRbEa");
        z.tell(0, 0, 1);
        due("19 no changes", z.best(0), 1);
        due("19 no changes", z.best(1), 0);
        due("19 no changes", z.best(2), 1);
        WordKin w = listed("RaEaCab**");
        due("19 one change", w.best(1), 0);
        due("19 one change", w.best(2), 1);
        due("19 three changes", listed("Cab**Cab**Cab**").best(2), 6);
    }

    private static void promise20() {
        // aa + a: by 0, 1 "b"; by 1, 0 "ba"
        WordKin x = listed("RaaEaCa-a*Cab.*");
        due("20 letters", x.judge(1, 3001), NONE);
        due("20 not so many", x.judge(1, 3002), 0);
        due("20 swapped first", x.judge(2, 10013002), NONE);
        due("20 swapped twice", x.judge(3, 100110013001L), NONE);
        due("20 swapped behind", x.judge(2, 30021001), 0);
        due("20 one place", x.judge(2, 10113001), NONE);
        due("20 nothing is changed", x.made(0, 0), 2);
        due("20 no doing", x.about(7), 0);
        due("20 signed", x.judge(2, 20053003), NONE);
        due("20 signed stays not", x.sign(0, 0), 1);
        due("20 signed to", x.judge(2, 20133003), NONE);
        due("20 signed ahead", x.judge(2, 20273003), 1);
        due("20 signed behind", x.judge(2, 20373002), NONE);
        due("20 from 0", x.judge(1, 2000), 0);
        due("20 from 6", x.judge(1, 2006), 0);
        due("20 to 0", x.judge(1, 2010), NONE);
        due("20 to 6", x.judge(1, 2016), 0);
        due("20 ahead 0", x.judge(1, 2020), 0);
        due("20 ahead 7", x.judge(1, 2027), NONE);
        due("20 behind 8", x.judge(1, 2038), 0);
        due("20 sign 4", x.judge(1, 2041), 0);
        due("20 change 2", x.judge(1, 2201), 0);
        due("20 swap of no place", x.judge(1, 1002), 0);
        due("20 swap of no place", x.judge(1, 1020), 0);
        due("20 swap told otherwise", x.judge(1, 1100), 0);
        due("20 root", x.judge(1, 3101), 0);
        due("20 ending", x.judge(1, 3011), 0);
        due("20 cross", x.judge(1, 4001), NONE);
        due("20 cross", x.judge(1, 4010), NONE);
        due("20 cross not", x.judge(1, 4011), 0);
        due("20 cross told otherwise", x.judge(1, 4101), 0);
        due("20 cross of no change", x.judge(1, 4002), 0);
        due("20 cross of no change", x.judge(1, 4020), 0);
        due("20 cross when signed", x.judge(2, 20054001), 1);
        due("20 active", x.judge(1, 5000), NONE);
        due("20 active", x.judge(1, 5100), NONE);
        due("20 active not", x.judge(2, 21055100), 1);
        due("20 active told otherwise", x.judge(1, 5001), 0);
        due("20 active told otherwise", x.judge(1, 5010), 0);
        due("20 active of no change", x.judge(1, 5200), 0);
        due("20 exceptions", x.judge(1, 6000), NONE);
        x.tell(0, 0, 21);
        due("20 exceptions", x.judge(1, 6000), 0);
        due("20 exceptions at most", x.judge(1, 6001), NONE);
        due("20 exceptions at most", x.judge(1, 6009), NONE);
        due("20 exceptions when swapped", x.judge(2, 10016000), NONE);
        due("20 exceptions told otherwise", x.judge(1, 6011), 0);
        due("20 exceptions told otherwise", x.judge(1, 6101), 0);
        due("20 kind 0", x.judge(2, 30010000), 1);
        due("20 kind 0 first", x.judge(2, 3001), 0);
        due("20 nothing told", x.judge(1, 0), 0);
        due("20 nothing told, four times", x.judge(4, 0), 0);
        due("20 six letters", listed("RabcdEab").judge(1, 3006), NONE);
        due("20 no letters", listed("RaEaCa-**").judge(1, 3000), NONE);
        due("20 kind 7", x.judge(1, 7000), 0);
        due("20 kind 9", x.judge(1, 9000), 0);
        due("20 the last of four", x.judge(4, 3001300130013002L), 3);
        due("20 four", x.judge(4, 3001300130013001L), NONE);
        due("20 nothing told stays", x.made(0, 0), 2);
        due("20 n 0", x.judge(0, 0), BAD);
        due("20 n 5", x.judge(5, 0), BAD);
        due("20 n -1", x.judge(-1, 0), BAD);
        due("20 row -1", x.judge(1, -1L), BAD);
        due("20 row least", x.judge(4, Long.MIN_VALUE), BAD);
        due("20 row most", x.judge(4, Long.MAX_VALUE), BAD);
        for (int n = 1; n <= 4; n++) {
            long most = 1;
            for (int i = 0; i < n; i++) most *= 10000L;
            due("20 most " + n, x.judge(n, most - 1), 0);
            due("20 one more " + n, x.judge(n, most), BAD);
        }
    }

    private static void share(WordKin x, int change, int above, int below) {
        due("21 share " + change, x.share(change, true), above);
        due("21 share " + change, x.share(change, false), below);
    }

    private static void promise21() {
        // aa, ba: with a to b they are one word
        share(listed("RaRbEaCab**"), 0, -1, 1);
        // either makes aa, ba one word: both alone do, together no more
        WordKin two = listed("RaRbEaCab**Cba**");
        share(two, 0, -1, 2);
        share(two, 1, -1, 2);
        due("21 change 2", two.share(2, true), UNKNOWN);
        due("21 change -1", two.share(-1, false), UNKNOWN);
        WordKin three = listed("RaRbEaCab**Cba**Cab**");
        // what counts is which of the three comes first
        share(three, 0, -1, 3);
        share(three, 1, -1, 3);
        share(three, 2, -1, 3);
        WordKin four = listed("RaRbEaCab**Cba**Cab**Cd-**");
        share(four, 0, -1, 3);
        share(four, 3, 0, 1);
        share(listed("RaCab**"), 0, 0, 1);
        WordKin x = listed("RacRbcEaCab**Cc-b*");
        // none: aca, bca 2; 0: bcb, bcb 1; 1: aca, ba 2; both: bb 1
        share(x, 0, -1, 1);
        share(x, 1, 0, 1);
        // 1 ahead of 0 keeps apart what 0 alone makes one
        // aa > (1) ca, ba > (0) aa: none 2; {0} ba aa > 1; {1} 2; {0,1} by the order 1 first: ca, aa 2
        WordKin y = listed("RaRbEaCba.*Cac.*");
        y.swap(0, 1);
        share(y, 0, -1, 2);
        share(y, 1, 1, 2);
        y.swap(0, 1);
        // by the other order all become ca
        share(y, 0, -1, 1);
        share(y, 1, 0, 1);
    }

    private static void promise22and23() {
        WordKin x = listed("RaEbEc");
        due("23 nothing", x.unsee(), 0);
        due("22 ending 2", x.see(2, 9, 9, 9), UNKNOWN);
        due("22 ending -1", x.see(-1, 0, 1, 1), UNKNOWN);
        due("22 i -1", x.see(0, -1, 1, 1), BAD);
        due("22 i 5", x.see(0, 5, 1, 1), BAD);
        due("22 v 0", x.see(0, 0, 0, 1), BAD);
        due("22 v 6", x.see(0, 0, 6, 1), BAD);
        due("22 was -1", x.see(0, 0, 1, -1), BAD);
        due("22 was 2", x.see(0, 0, 1, 2), BAD);
        due("22 none so far", x.about(8), 0);
        due("22 first", x.see(0, 0, 1, 1), 1);
        due("22 the same", x.see(0, 0, 1, 1), 2);
        due("22 third", x.see(1, 4, 5, 0), 3);
        due("22 fourth", x.see(0, 1, 1, 0), 4);
        due("22 fifth", x.see(0, 1, 2, 0), 5);
        due("22 sixth", x.see(0, 1, 3, 0), 6);
        due("22 seventh", x.see(0, 0, 1, 1), FULL);
        due("22 seventh, bad", x.see(0, 5, 1, 1), BAD);
        due("22 seventh, unknown", x.see(2, 5, 1, 1), UNKNOWN);
        due("23 six", x.unsee(), 6);
        due("23 none", x.unsee(), 0);
        due("22 anew", x.see(0, 4, 5, 1), 1);
        due("22 it is no doing", x.about(7), 0);
    }

    private static void promise24() {
        WordKin x = listed("EaEbCab**");
        due("24 all", x.which(0), 125);
        due("24 the first", x.which(1), 111);
        due("24 what 2", x.which(2), BAD);
        due("24 what -1", x.which(-1), BAD);
        // letter 0 was b: a or b; letter 1 was not b: c, d, e
        x.see(0, 0, 2, 1);
        due("24 first was b", x.which(0), 50);
        due("24 first was b", x.which(1), 111);
        x.see(1, 1, 2, 0);
        due("24 and the next not", x.which(0), 30);
        due("24 and the next not", x.which(1), 131);
        // letter 3 is that of the ending: b both times
        x.see(0, 3, 2, 1);
        due("24 the ending's", x.which(0), 30);
        x.see(0, 4, 2, 0);
        due("24 it has not so many: was not", x.which(0), 30);
        x.see(0, 4, 2, 1);
        due("24 it has not so many: was", x.which(0), 0);
        due("24 none", x.which(1), NONE);
        x.unsee();
        x.see(1, 0, 5, 1);
        due("24 e", x.which(1), 511);
        // by changes as they are
        x.resign(0, 0, 5);
        due("24 no e is left", x.which(0), 0);
        x.undo();
        due("24 again", x.which(0), 25);
        // the ending is no more: nothing is made of it
        listAnew(x, "Ea");
        due("24 an ending that is no more, was", x.which(0), 0);
        x.unsee();
        listAnew(x, "EaEb");
        x.see(1, 3, 2, 0);
        due("24 the ending's was not", x.which(0), 0);
        listAnew(x, "Ea");
        due("24 an ending that is no more, was not", x.which(0), 125);
        listAnew(x, "EaEc");
        due("24 another ending by its number", x.which(0), 125);
        x.unsee();
        x.see(1, 0, 1, 1);
        listAnew(x, "Ea");
        due("24 no letter a of an ending that is no more", x.which(0), 0);
        x.unsee();
        x.see(0, 4, 1, 1);
        due("24 no letter a where there is none", x.which(0), 0);
        WordKin y = listed("EeaCa-**");
        y.see(0, 0, 5, 1);
        // roots whose first letter behind the a is e, or that are all a
        due("24 letters gone", y.which(0), 25 + 5 + 1 + 1);
        due("24 letters gone", y.which(1), 111);
    }

    private static void fails(WordKin x, int tenths, int above, int below) {
        due("25 fails " + tenths, x.fails(0, 0, tenths, true), above);
        due("25 fails " + tenths, x.fails(0, 0, tenths, false), below);
    }

    private static void promise25() {
        WordKin none = listed("RaEb");
        fails(none, 0, 1, 1);
        fails(none, 10, 1, 1);
        WordKin one = listed("RaEbCab**");
        fails(one, 0, 1, 1);
        fails(one, 3, 7, 10);
        fails(one, 5, 1, 2);
        fails(one, 10, 0, 1);
        WordKin idle = listed("RaEbCcb**");
        fails(idle, 4, 1, 1);
        fails(idle, 10, 1, 1);
        // ab > cc: both must go
        fails(listed("RaEbCab**Cbc**"), 3, 49, 100);
        // ab > bb, the second idles: the first or the second must go
        fails(listed("RaEbCab**Cab**"), 3, 91, 100);
        fails(listed("RaEbCab**Cab**Cab**Cab**"), 9, 3439, 10000);
        fails(listed("RaEaCab**Cbc**Ccd**Cde**"), 1, 6561, 10000);
        // aa + a: a-a* alone leaves a; to b at the first letter: "b"; by neither other way
        fails(listed("RaaEaCa-a*Cab.*"), 2, 16, 25);
        WordKin x = listed("RaRbEaEbCab**");
        due("25 another pair", x.fails(1, 1, 5, true), 1);
        due("25 another pair", x.fails(1, 1, 5, false), 1);
        due("25 root", x.fails(2, 0, 11, true), UNKNOWN);
        due("25 root -1", x.fails(-1, 0, 0, true), UNKNOWN);
        due("25 ending", x.fails(0, 2, 11, false), UNKNOWN);
        due("25 ending -1", x.fails(0, -1, 1, false), UNKNOWN);
        due("25 x 11", x.fails(0, 0, 11, true), BAD);
        due("25 x -1", x.fails(0, 0, -1, false), BAD);
    }

    private static void promise26and27() {
        WordKin x = new WordKin();
        due("26 at first", x.seed(Long.MIN_VALUE), 0);
        due("26 was", x.seed(-7L), Long.MIN_VALUE);
        due("26 was", x.seed(0L), -7);
        due("27 m 0", x.drawn(0), BAD);
        due("27 m 21", x.drawn(21), BAD);
        due("27 m -1", x.drawn(-1), BAD);
        due("26 bad draws nothing", x.seed(0L), 0);
        due("27 no changes", x.drawn(1), 4);
        due("26 seed then", x.seed(0L), 1442695040888963407L);
        due("27 twenty", x.drawn(20), 80);
        // roots without an ending are drawn even if there are none in the list
        WordKin y = listed("Ca-**Cb-**Cc-**Cd-**");
        int sum = 0;
        long seed = 5L;
        y.seed(seed);
        for (int i = 0; i < 20; i++) {
            seed = seed * 6364136223846793005L + 1442695040888963407L;
            long bits = seed >>> 33;
            int es = 0;
            for (int by = 1; by <= 512; by *= 8) es += bits / by % 5 == 4 ? 1 : 0;
            due("27 es " + i, y.drawn(1), es);
            sum += es;
        }
        due("27 seed behind", y.seed(5L), seed);
        due("27 together", y.drawn(20), sum);
        due("27 the same seed", y.seed(0L), seed);
        // which letter is the first: it alone has nothing ahead
        WordKin z = listed("Ca-.*Cb-.*");
        z.seed(11L);
        long s = 11L;
        for (int i = 0; i < 20; i++) {
            s = s * 6364136223846793005L + 1442695040888963407L;
            long bits = s >>> 33;
            boolean a = bits % 5 == 0;
            boolean b = bits % 5 == 1 || (a && bits / 8 % 5 == 1);
            due("27 first " + i, z.drawn(1), 4 - (a ? 1 : 0) - (b ? 1 : 0));
        }
        due("27 no doing", z.about(7), 0);
    }

    private static void promise28and29() {
        WordKin x = listed("RaRbEcCab**Cbc**");
        due("29 none kept", x.again(0), LATE);
        due("28 slot 2", x.keep(2), UNKNOWN);
        due("28 slot -1", x.keep(-1), UNKNOWN);
        due("29 slot 2", x.again(2), UNKNOWN);
        due("29 slot -1", x.again(-1), UNKNOWN);
        x.tell(0, 0, 5);
        x.swap(0, 1);
        x.resign(0, 1, 4);
        due("28 keep 0", x.keep(0), 1);
        due("28 doings stay", x.about(7), 3);
        due("29 the other slot", x.again(1), LATE);
        due("29 late: doings stay", x.about(7), 3);
        x.tell(1, 0, 5);
        x.tell(0, 0, 1);
        x.swap(0, 1);
        x.resign(0, 1, 5);
        x.resign(1, 2, 7);
        due("28 keep 1", x.keep(1), 2);
        due("29 again 0", x.again(0), 1);
        due("29 form", x.form(0, 0), 5);
        due("29 form", x.form(1, 0), NONE);
        due("29 order", x.order(0), 1);
        due("29 sign", x.sign(0, 1), 4);
        due("29 sign", x.sign(1, 2), 6);
        due("29 no doings", x.about(7), 0);
        due("29 undo", x.undo(), LATE);
        x.tell(0, 0, NONE);
        due("29 once more, what was kept", x.again(0), 1);
        due("29 form", x.form(0, 0), 5);
        due("29 again 1", x.again(1), 2);
        due("29 form", x.form(0, 0), 1);
        due("29 order", x.order(0), 0);
        due("29 sign", x.sign(1, 2), 7);
        due("28 over what was kept", x.keep(0), 2);
        x.tell(0, 0, NONE);
        due("29 the later one", x.again(0), 2);
        x.see(0, 0, 1, 1);
        x.seed(8L);
        x.wipe();
        x.again(0);
        due("29 seen stays", x.about(8), 1);
        due("29 seed stays", x.seed(0L), 8);
        due("29 text stays", x.about(9), 0);
        due("29 roots stay", x.about(0), 2);
        due("28 nothing there", new WordKin().keep(1), 0);
        WordKin y = new WordKin();
        y.keep(1);
        due("29 nothing there", y.again(1), 0);
    }

    private static void refusalsChangeNothing() {
        WordKin x = listed("RaEbCab**Cbc**");
        x.tell(0, 0, 5);
        x.seed(4L);
        x.write(300);
        x.swap(0, 2);
        x.resign(0, 0, 0);
        x.resign(2, 0, 1);
        x.tell(0, 0, 6);
        x.tell(1, 0, 1);
        x.see(0, 5, 1, 1);
        x.drawn(0);
        x.again(0);
        x.keep(2);
        x.judge(1, 1001);
        x.best(1);
        due("refused: text", x.about(9), 14);
        due("refused: order", x.order(0), 0);
        due("refused: sign", x.sign(0, 0), 1);
        due("refused: form", x.form(0, 0), 5);
        due("refused: seen", x.about(8), 0);
        due("refused: doings", x.about(7), 1);
        due("refused: seed", x.seed(0L), 4);
    }
}
