/**
 * Words that are kin: roots, endings, and changes of sounds that go over words one after the other.
 * A word is held as its figures (an int), so that no call has to make an object.
 */
public final class WordKin {
    public static final int UNKNOWN = -1, BAD = -2, LATE = -3, FULL = -4, NONE = -9;

    private static final int MOST_TEXT = 60;
    private static final int MOST_ROOTS = 4;
    private static final int MOST_ROOT_LETTERS = 4;
    private static final int MOST_ENDINGS = 3;
    private static final int MOST_ENDING_LETTERS = 2;
    private static final int MOST_PAIRS = 12;
    private static final int MOST_CHANGES = 4;
    private static final int MOST_ORDERS = 24;
    private static final int MOST_LETTERS = 6;
    private static final int MOST_DOINGS = 14;
    private static final int MOST_JUDGED = 4;
    private static final int MOST_SEEN = 6;
    private static final int MOST_SEEN_PLACE = 4;
    private static final int MOST_DRAWN = 20;
    private static final int SLOTS = 2;
    private static final int THREE_LETTER_ROOTS = 125;

    private static final int LETTERS = 5;
    private static final int GONE = 0;
    private static final int ANYTHING = 6;
    private static final int NOTHING_AT_ALL = 7;
    private static final int NO_SIGN = -1;

    private static final int SIGNS = 4;
    private static final int FROM = 0;
    private static final int TO = 1;
    private static final int AHEAD = 2;
    private static final int BEHIND = 3;

    private static final int SWAPPED = 1;
    private static final int SIGNED = 2;
    private static final int FORMED = 3;

    private static final long SEED_TIMES = 6364136223846793005L;
    private static final long SEED_AND = 1442695040888963407L;

    private static final int[] FACTORIALS = {1, 1, 2, 6, 24};

    private final Text text;
    private final Stock stock;
    private final Ways ways;
    /** A second set of ways, so that a question can try others without touching those that are. */
    private final Ways trial;
    private final Ways[] kept;
    private final boolean[] isKept;
    private final Doings doings;
    private final Sightings sightings;
    private long seedNow;

    public WordKin() {
        text = new Text();
        stock = new Stock();
        ways = new Ways(stock);
        trial = new Ways(stock);
        kept = new Ways[SLOTS];
        for (int slot = 0; slot < SLOTS; slot++) {
            kept[slot] = new Ways(stock);
        }
        isKept = new boolean[SLOTS];
        doings = new Doings();
        sightings = new Sightings();
        seedNow = 0L;
    }

    // ---- the list

    public int write(int letter) {
        if (letter < 0 || letter > 255) {
            return BAD;
        }
        return text.append(letter) ? text.length : FULL;
    }

    public int wipe() {
        int was = text.length;
        text.length = 0;
        return was;
    }

    public int fault(int what) {
        if (what != 0 && what != 1) {
            return BAD;
        }
        text.read();
        return what == 0 ? text.faultPlace : text.faultPart;
    }

    public int list() {
        text.read();
        if (text.faultPlace != NONE) {
            return LATE;
        }
        stock.takeFrom(text);
        ways.beginWith(text);
        doings.count = 0;
        for (int slot = 0; slot < SLOTS; slot++) {
            isKept[slot] = false;
        }
        return text.partCount;
    }

    public int about(int what) {
        switch (what) {
            case 0: return stock.rootCount;
            case 1: return stock.endingCount;
            case 2: return ways.changeCount;
            case 3: return ways.unlikeWords(ways.allChanges());
            case 4: return ways.activeChanges();
            case 5: return ways.exceptions();
            case 6: return ways.formCount();
            case 7: return doings.count;
            case 8: return sightings.count;
            case 9: return text.length;
            default: return BAD;
        }
    }

    public int part(int kind, int i) {
        if (kind != 0 && kind != 1) {
            return BAD;
        }
        if (kind == 0) {
            return stock.hasRoot(i) ? stock.roots[i] : UNKNOWN;
        }
        return stock.hasEnding(i) ? stock.endings[i] : UNKNOWN;
    }

    public int sign(int change, int which) {
        if (!ways.hasChange(change)) {
            return UNKNOWN;
        }
        return isSignPlace(which) ? ways.signOf(change, which) : BAD;
    }

    public int order(int place) {
        return ways.hasChange(place) ? ways.line[place] : UNKNOWN;
    }

    // ---- words

    public int made(int root, int ending) {
        return stock.hasPair(root, ending) ? ways.makeOf(root, ending) : UNKNOWN;
    }

    public int step(int root, int ending, int k) {
        if (!stock.hasPair(root, ending)) {
            return UNKNOWN;
        }
        if (k < 0 || k > ways.changeCount) {
            return BAD;
        }
        return ways.walk(stock.joined(root, ending), k);
    }

    public int apart(int word, int what) {
        if (!Words.isWord(word) || (what != 0 && what != 1)) {
            return BAD;
        }
        int count = 0;
        int first = NONE;
        for (int root = 0; root < stock.rootCount; root++) {
            for (int ending = 0; ending < stock.endingCount; ending++) {
                if (ways.makeOf(root, ending) == word) {
                    first = count == 0 ? 10 * root + ending : first;
                    count++;
                }
            }
        }
        return what == 0 ? count : first;
    }

    public int form(int root, int ending) {
        return stock.hasPair(root, ending) ? ways.formOf(root, ending) : UNKNOWN;
    }

    // ---- doings

    public int swap(int i, int k) {
        if (!ways.hasChange(i) || !ways.hasChange(k)) {
            return UNKNOWN;
        }
        ways.exchange(i, k);
        doings.add(SWAPPED, i, k, 0);
        return ways.unlikeWords(ways.allChanges());
    }

    public int resign(int change, int which, int v) {
        if (!ways.hasChange(change)) {
            return UNKNOWN;
        }
        if (!allowsSign(which, v)) {
            return BAD;
        }
        int was = ways.signOf(change, which);
        ways.putSign(change, which, v);
        doings.add(SIGNED, change, which, was);
        return was;
    }

    public int tell(int root, int ending, int word) {
        if (!stock.hasPair(root, ending)) {
            return UNKNOWN;
        }
        if (word != NONE && !Words.isWord(word)) {
            return BAD;
        }
        int was = ways.formOf(root, ending);
        ways.putForm(root, ending, word);
        doings.add(FORMED, root, ending, was);
        return ways.exceptions();
    }

    public int undo() {
        if (doings.count == 0) {
            return LATE;
        }
        doings.takeBackLast(ways);
        return doings.count;
    }

    // ---- orders

    public int cross(int one, int other) {
        if (!ways.hasChange(one) || !ways.hasChange(other)) {
            return UNKNOWN;
        }
        return ways.doCross(one, other) ? 1 : 0;
    }

    public int best(int what) {
        if (what < 0 || what > 2) {
            return BAD;
        }
        trial.takeFrom(ways);
        trial.orderByNumber();
        int fewest = trial.exceptions();
        int figures = trial.orderFigures();
        int alike = 1;
        for (int i = 1; i < MOST_ORDERS && trial.goToNextOrder(); i++) {
            int exceptions = trial.exceptions();
            if (exceptions < fewest) {
                fewest = exceptions;
                figures = trial.orderFigures();
                alike = 1;
            } else if (exceptions == fewest) {
                alike++;
            }
        }
        return what == 0 ? fewest : what == 1 ? figures : alike;
    }

    public int judge(int n, long row) {
        if (n < 1 || n > MOST_JUDGED || row < 0L || withoutLastFours(row, n) != 0L) {
            return BAD;
        }
        trial.takeFrom(ways);
        for (int place = 0; place < n; place++) {
            int told = (int) (withoutLastFours(row, n - 1 - place) % 10000L);
            if (!canBe(told / 1000, told / 100 % 10, told / 10 % 10, told % 10)) {
                return place;
            }
        }
        return NONE;
    }

    public int share(int change, boolean upper) {
        if (!ways.hasChange(change)) {
            return UNKNOWN;
        }
        int changes = ways.changeCount;
        int above = 0;
        for (int come = 0; come <= ways.allChanges(); come++) {
            if ((come & 1 << change) == 0) {
                int before = Integer.bitCount(come);
                // so many orders have just these changes ahead of this one
                int orders = FACTORIALS[before] * FACTORIALS[changes - 1 - before];
                above += orders * (ways.unlikeWords(come | 1 << change) - ways.unlikeWords(come));
            }
        }
        return fraction(above, FACTORIALS[changes], upper);
    }

    // ---- seen

    public int see(int ending, int i, int v, int was) {
        if (!stock.hasEnding(ending)) {
            return UNKNOWN;
        }
        if (i < 0 || i > MOST_SEEN_PLACE || v < 1 || v > LETTERS || was < 0 || was > 1) {
            return BAD;
        }
        return sightings.add(ending, i, v, was == 1) ? sightings.count : FULL;
    }

    public int unsee() {
        int was = sightings.count;
        sightings.count = 0;
        return was;
    }

    public int which(int what) {
        if (what != 0 && what != 1) {
            return BAD;
        }
        int count = 0;
        int first = NONE;
        for (int i = 0; i < THREE_LETTER_ROOTS; i++) {
            int root = 111 + 100 * (i / 25) + 10 * (i / 5 % 5) + i % 5;
            if (sightings.agreeWith(root, stock, ways)) {
                first = count == 0 ? root : first;
                count++;
            }
        }
        return what == 0 ? count : first;
    }

    // ---- chances

    public int fails(int root, int ending, int x, boolean upper) {
        if (!stock.hasPair(root, ending)) {
            return UNKNOWN;
        }
        if (x < 0 || x > 10) {
            return BAD;
        }
        int word = stock.joined(root, ending);
        int due = ways.makeOf(root, ending);
        int above = 0;
        for (int going = 0; going <= ways.allChanges(); going++) {
            if (ways.walkWith(word, going) == due) {
                int gone = Integer.bitCount(going);
                above += power(10 - x, gone) * power(x, ways.changeCount - gone);
            }
        }
        return fraction(above, power(10, ways.changeCount), upper);
    }

    public long seed(long v) {
        long was = seedNow;
        seedNow = v;
        return was;
    }

    public int drawn(int m) {
        if (m < 1 || m > MOST_DRAWN) {
            return BAD;
        }
        int together = 0;
        for (int time = 0; time < m; time++) {
            seedNow = seedNow * SEED_TIMES + SEED_AND;
            int upperBits = (int) (seedNow >>> 33);
            int root = rootDrawnFrom(upperBits);
            together += Words.lengthOf(ways.walk(root, ways.changeCount));
        }
        return together;
    }

    // ---- slots

    public int keep(int slot) {
        if (!isSlot(slot)) {
            return UNKNOWN;
        }
        kept[slot].takeFrom(ways);
        isKept[slot] = true;
        return ways.formCount();
    }

    public int again(int slot) {
        if (!isSlot(slot)) {
            return UNKNOWN;
        }
        if (!isKept[slot]) {
            return LATE;
        }
        ways.takeFrom(kept[slot]);
        doings.count = 0;
        return ways.formCount();
    }

    // ---- what the calls share

    private static boolean isSlot(int slot) {
        return slot >= 0 && slot < SLOTS;
    }

    private static boolean isSignPlace(int which) {
        return which >= 0 && which < SIGNS;
    }

    private static boolean allowsSign(int which, int v) {
        switch (which) {
            case FROM: return v >= 1 && v <= LETTERS;
            case TO: return v >= GONE && v <= LETTERS;
            case AHEAD:
            case BEHIND: return v >= 1 && v <= NOTHING_AT_ALL;
            default: return false;
        }
    }

    private static long withoutLastFours(long row, int fours) {
        long rest = row;
        for (int i = 0; i < fours; i++) {
            rest /= 10000L;
        }
        return rest;
    }

    /** Judges one told doing by the trial ways; a doing that changes them holds for those told behind it. */
    private boolean canBe(int kind, int a, int b, int c) {
        switch (kind) {
            case 1: return a == 0 && canSwap(b, c);
            case 2: return canSign(a, b, c);
            case 3: return stock.hasPair(a, b) && Words.lengthOf(trial.makeOf(a, b)) == c;
            case 4: return a == 0 && trial.hasChange(b) && trial.hasChange(c) && trial.doCross(b, c);
            case 5: return trial.hasChange(a) && b == 0 && c == 0 && (trial.activeChanges() & 1 << a) != 0;
            case 6: return a == 0 && b == 0 && trial.exceptions() <= c;
            default: return false;
        }
    }

    private boolean canSwap(int i, int k) {
        if (!trial.hasChange(i) || !trial.hasChange(k)) {
            return false;
        }
        trial.exchange(i, k);
        return true;
    }

    private boolean canSign(int change, int which, int v) {
        if (!trial.hasChange(change) || !allowsSign(which, v)) {
            return false;
        }
        trial.putSign(change, which, v);
        return true;
    }

    private static int rootDrawnFrom(int upperBits) {
        int first = upperBits % 5 + 1;
        int second = upperBits / 8 % 5 + 1;
        int third = upperBits / 64 % 5 + 1;
        int fourth = upperBits / 512 % 5 + 1;
        return 1000 * first + 100 * second + 10 * third + fourth;
    }

    private static int power(int base, int exponent) {
        int product = 1;
        for (int i = 0; i < exponent; i++) {
            product *= base;
        }
        return product;
    }

    /** The upper or the lower number of above / below (below is more than 0) in least terms. */
    private static int fraction(int above, int below, boolean upper) {
        int shared = sharedDivisor(Math.abs(above), below);
        int number = upper ? above : below;
        return shared > 1 ? number / shared : number;
    }

    private static int sharedDivisor(int one, int other) {
        int large = one;
        int small = other;
        // 64 is far above the steps that two ints can need
        for (int i = 0; i < 64 && small != 0; i++) {
            int left = large % small;
            large = small;
            small = left;
        }
        return large;
    }

    /** What can be said of a word by its figures alone. */
    private static final class Words {
        static boolean isWord(int word) {
            if (word < 0 || word > 555555) {
                return false;
            }
            int rest = word;
            for (int i = 0; i < MOST_LETTERS && rest > 0; i++) {
                int letter = rest % 10;
                if (letter < 1 || letter > LETTERS) {
                    return false;
                }
                rest /= 10;
            }
            return true;
        }

        static int lengthOf(int word) {
            int length = 0;
            int rest = word;
            for (int i = 0; i < MOST_LETTERS && rest > 0; i++) {
                rest /= 10;
                length++;
            }
            return length;
        }

        /** The letter at a place from the first one on; 0: the word has not so many. */
        static int letterAt(int word, int place) {
            int behind = lengthOf(word) - 1 - place;
            if (behind < 0) {
                return 0;
            }
            int rest = word;
            for (int i = 0; i < behind; i++) {
                rest /= 10;
            }
            return rest % 10;
        }

        /** The word and behind it an ending, which has one letter or two. */
        static int join(int word, int ending) {
            return (ending < 10 ? 10 : 100) * word + ending;
        }

        /** Whether a letter's neighbour (0: it has none) is what a sign tells. */
        static boolean fits(int sign, int neighbour) {
            if (sign == ANYTHING) {
                return true;
            }
            return neighbour == (sign == NOTHING_AT_ALL ? 0 : sign);
        }
    }

    /** The roots and endings of the list. */
    private static final class Stock {
        private final int[] roots = new int[MOST_ROOTS];
        private final int[] endings = new int[MOST_ENDINGS];
        private int rootCount;
        private int endingCount;

        void takeFrom(Text text) {
            System.arraycopy(text.roots, 0, roots, 0, MOST_ROOTS);
            System.arraycopy(text.endings, 0, endings, 0, MOST_ENDINGS);
            rootCount = text.rootCount;
            endingCount = text.endingCount;
        }

        boolean hasRoot(int root) {
            return root >= 0 && root < rootCount;
        }

        boolean hasEnding(int ending) {
            return ending >= 0 && ending < endingCount;
        }

        boolean hasPair(int root, int ending) {
            return hasRoot(root) && hasEnding(ending);
        }

        int joined(int root, int ending) {
            return Words.join(roots[root], endings[ending]);
        }
    }

    /** What doings change and slots keep: the changes, their order, the forms. */
    private static final class Ways {
        private final Stock stock;
        private final int[] signs = new int[MOST_CHANGES * SIGNS];
        private final int[] line = new int[MOST_CHANGES];
        private final int[] forms = new int[MOST_PAIRS];
        /** Made once and used again by each count of unlike words. */
        private final int[] unlike = new int[MOST_PAIRS];
        private int changeCount;

        Ways(Stock stock) {
            this.stock = stock;
            for (int pair = 0; pair < MOST_PAIRS; pair++) {
                forms[pair] = NONE;
            }
        }

        void beginWith(Text text) {
            System.arraycopy(text.signs, 0, signs, 0, MOST_CHANGES * SIGNS);
            changeCount = text.changeCount;
            orderByNumber();
            for (int pair = 0; pair < MOST_PAIRS; pair++) {
                forms[pair] = NONE;
            }
        }

        void takeFrom(Ways other) {
            System.arraycopy(other.signs, 0, signs, 0, MOST_CHANGES * SIGNS);
            System.arraycopy(other.line, 0, line, 0, MOST_CHANGES);
            System.arraycopy(other.forms, 0, forms, 0, MOST_PAIRS);
            changeCount = other.changeCount;
        }

        /** There are as many places of the order as changes, so this tells of both. */
        boolean hasChange(int change) {
            return change >= 0 && change < changeCount;
        }

        int allChanges() {
            return (1 << changeCount) - 1;
        }

        int signOf(int change, int which) {
            return signs[change * SIGNS + which];
        }

        void putSign(int change, int which, int v) {
            signs[change * SIGNS + which] = v;
        }

        int formOf(int root, int ending) {
            return forms[root * MOST_ENDINGS + ending];
        }

        void putForm(int root, int ending, int word) {
            forms[root * MOST_ENDINGS + ending] = word;
        }

        int formCount() {
            int count = 0;
            for (int pair = 0; pair < MOST_PAIRS; pair++) {
                if (forms[pair] != NONE) {
                    count++;
                }
            }
            return count;
        }

        void orderByNumber() {
            for (int place = 0; place < MOST_CHANGES; place++) {
                line[place] = place;
            }
        }

        void exchange(int i, int k) {
            int had = line[i];
            line[i] = line[k];
            line[k] = had;
        }

        /** Goes on to the order that is next by its figures; false: this one is the last. */
        boolean goToNextOrder() {
            int low = changeCount - 2;
            while (low >= 0 && line[low] > line[low + 1]) {
                low--;
            }
            if (low < 0) {
                return false;
            }
            int high = changeCount - 1;
            while (high > low && line[high] < line[low]) {
                high--;
            }
            exchange(low, high);
            // what is behind goes down from there, so turned round it is the least that it can be
            for (int i = low + 1, k = changeCount - 1; i < k; i++, k--) {
                exchange(i, k);
            }
            return true;
        }

        int orderFigures() {
            int figures = 0;
            for (int place = 0; place < changeCount; place++) {
                figures = 10 * figures + line[place];
            }
            return figures;
        }

        /** Goes from the last letter to the first, by the word as it was, at all places at once. */
        int goOver(int change, int word) {
            int from = signOf(change, FROM);
            int result = 0;
            int worth = 1;
            int next = 0;
            int rest = word;
            for (int i = 0; i < MOST_LETTERS && rest > 0; i++) {
                int letter = rest % 10;
                rest /= 10;
                boolean changes = letter == from && Words.fits(signOf(change, AHEAD), rest % 10)
                        && Words.fits(signOf(change, BEHIND), next);
                int becomes = changes ? signOf(change, TO) : letter;
                if (becomes != GONE) {
                    result += becomes * worth;
                    worth *= 10;
                }
                next = letter;
            }
            return result;
        }

        /** The word behind the first changes of the order, so many as places tells. */
        int walk(int word, int places) {
            int now = word;
            for (int place = 0; place < places; place++) {
                now = goOver(line[place], now);
            }
            return now;
        }

        /** The word behind those changes alone whose bits are in the set, by the order. */
        int walkWith(int word, int set) {
            int now = word;
            for (int place = 0; place < changeCount; place++) {
                if ((set & 1 << line[place]) != 0) {
                    now = goOver(line[place], now);
                }
            }
            return now;
        }

        int makeOf(int root, int ending) {
            return walk(stock.joined(root, ending), changeCount);
        }

        int unlikeWords(int set) {
            int count = 0;
            for (int root = 0; root < stock.rootCount; root++) {
                for (int ending = 0; ending < stock.endingCount; ending++) {
                    int word = walkWith(stock.joined(root, ending), set);
                    if (!isAmongUnlike(word, count)) {
                        unlike[count] = word;
                        count++;
                    }
                }
            }
            return count;
        }

        private boolean isAmongUnlike(int word, int count) {
            for (int i = 0; i < count; i++) {
                if (unlike[i] == word) {
                    return true;
                }
            }
            return false;
        }

        int activeChanges() {
            int bits = 0;
            for (int root = 0; root < stock.rootCount; root++) {
                for (int ending = 0; ending < stock.endingCount; ending++) {
                    bits |= activeOver(stock.joined(root, ending));
                }
            }
            return bits;
        }

        private int activeOver(int word) {
            int bits = 0;
            int now = word;
            for (int place = 0; place < changeCount; place++) {
                int then = goOver(line[place], now);
                if (then != now) {
                    bits |= 1 << line[place];
                }
                now = then;
            }
            return bits;
        }

        int exceptions() {
            int count = 0;
            for (int root = 0; root < stock.rootCount; root++) {
                for (int ending = 0; ending < stock.endingCount; ending++) {
                    int told = formOf(root, ending);
                    if (told != NONE && told != makeOf(root, ending)) {
                        count++;
                    }
                }
            }
            return count;
        }

        boolean doCross(int one, int other) {
            for (int root = 0; root < stock.rootCount; root++) {
                for (int ending = 0; ending < stock.endingCount; ending++) {
                    int word = stock.joined(root, ending);
                    if (goOver(other, goOver(one, word)) != goOver(one, goOver(other, word))) {
                        return true;
                    }
                }
            }
            return false;
        }
    }

    /** The text, and what was in it when it was last read. */
    private static final class Text {
        private static final int NO_PART = 0;
        private static final int ROOT = 1;
        private static final int ENDING = 2;
        private static final int CHANGE = 3;

        private final int[] letters = new int[MOST_TEXT];
        private int length;

        private final int[] roots = new int[MOST_ROOTS];
        private final int[] endings = new int[MOST_ENDINGS];
        private final int[] signs = new int[MOST_CHANGES * SIGNS];
        private int rootCount;
        private int endingCount;
        private int changeCount;
        private int partCount;
        private int faultPlace;
        private int faultPart;

        private int kind;
        /** How many letters or signs the part that is being read has. */
        private int got;

        boolean append(int letter) {
            if (length >= MOST_TEXT) {
                return false;
            }
            letters[length] = letter;
            length++;
            return true;
        }

        void read() {
            beginReading();
            for (int place = 0; place < length; place++) {
                boolean ofThisPart = needsMore() || (isOfLetters() && isLetter(letters[place]));
                int partThen = ofThisPart ? partCount - 1 : partCount;
                boolean taken = ofThisPart ? goOnWith(letters[place]) : beginPart(letters[place]);
                if (!taken) {
                    faultPlace = place;
                    faultPart = partThen;
                    return;
                }
            }
            faultPlace = needsMore() ? length : NONE;
            faultPart = needsMore() ? partCount - 1 : NONE;
        }

        private void beginReading() {
            rootCount = 0;
            endingCount = 0;
            changeCount = 0;
            partCount = 0;
            kind = NO_PART;
            got = 0;
        }

        private boolean isOfLetters() {
            return kind == ROOT || kind == ENDING;
        }

        private boolean needsMore() {
            return isOfLetters() ? got == 0 : kind == CHANGE && got < SIGNS;
        }

        private boolean beginPart(int letter) {
            if (letter == 'R' && rootCount < MOST_ROOTS) {
                roots[rootCount] = 0;
                rootCount++;
                kind = ROOT;
            } else if (letter == 'E' && endingCount < MOST_ENDINGS) {
                endings[endingCount] = 0;
                endingCount++;
                kind = ENDING;
            } else if (letter == 'C' && changeCount < MOST_CHANGES) {
                changeCount++;
                kind = CHANGE;
            } else {
                return false;
            }
            got = 0;
            partCount++;
            return true;
        }

        private boolean goOnWith(int letter) {
            boolean taken;
            if (kind == ROOT) {
                taken = addLetter(roots, rootCount - 1, MOST_ROOT_LETTERS, letter);
            } else if (kind == ENDING) {
                taken = addLetter(endings, endingCount - 1, MOST_ENDING_LETTERS, letter);
            } else {
                taken = addSign(letter);
            }
            got += taken ? 1 : 0;
            return taken;
        }

        private boolean addLetter(int[] words, int at, int most, int letter) {
            if (got >= most || !isLetter(letter) || at < 0 || at >= words.length) {
                return false;
            }
            words[at] = 10 * words[at] + signMeant(letter);
            return true;
        }

        private boolean addSign(int letter) {
            int v = signMeant(letter);
            int at = (changeCount - 1) * SIGNS + got;
            if (!allowsSign(got, v) || at < 0 || at >= signs.length) {
                return false;
            }
            signs[at] = v;
            return true;
        }

        private static boolean isLetter(int letter) {
            return letter >= 'a' && letter <= 'e';
        }

        private static int signMeant(int letter) {
            if (isLetter(letter)) {
                return letter - 'a' + 1;
            }
            switch (letter) {
                case '-': return GONE;
                case '*': return ANYTHING;
                case '.': return NOTHING_AT_ALL;
                default: return NO_SIGN;
            }
        }
    }

    /** The last doings with what was before each of them, in a ring: a full one forgets its first. */
    private static final class Doings {
        private final int[] kinds = new int[MOST_DOINGS];
        private final int[] ones = new int[MOST_DOINGS];
        private final int[] others = new int[MOST_DOINGS];
        private final int[] befores = new int[MOST_DOINGS];
        private int first;
        private int count;

        void add(int kind, int one, int other, int before) {
            if (count == MOST_DOINGS) {
                first = (first + 1) % MOST_DOINGS;
                count--;
            }
            int at = (first + count) % MOST_DOINGS;
            kinds[at] = kind;
            ones[at] = one;
            others[at] = other;
            befores[at] = before;
            count++;
        }

        void takeBackLast(Ways ways) {
            if (count == 0) {
                return;
            }
            count--;
            int at = (first + count) % MOST_DOINGS;
            switch (kinds[at]) {
                case SWAPPED:
                    ways.exchange(ones[at], others[at]);
                    break;
                case SIGNED:
                    ways.putSign(ones[at], others[at], befores[at]);
                    break;
                case FORMED:
                    ways.putForm(ones[at], others[at], befores[at]);
                    break;
                default:
                    break;
            }
        }
    }

    /** What was seen of words made of an unknown root. */
    private static final class Sightings {
        private final int[] endings = new int[MOST_SEEN];
        private final int[] places = new int[MOST_SEEN];
        private final int[] letters = new int[MOST_SEEN];
        private final boolean[] was = new boolean[MOST_SEEN];
        private int count;

        boolean add(int ending, int place, int letter, boolean wasSo) {
            if (count >= MOST_SEEN) {
                return false;
            }
            endings[count] = ending;
            places[count] = place;
            letters[count] = letter;
            was[count] = wasSo;
            count++;
            return true;
        }

        boolean agreeWith(int root, Stock stock, Ways ways) {
            for (int i = 0; i < count; i++) {
                // what was seen outlives the list, so the ending may be one that is no more
                int word = stock.hasEnding(endings[i])
                        ? ways.walk(Words.join(root, stock.endings[endings[i]]), ways.changeCount) : 0;
                if ((Words.letterAt(word, places[i]) == letters[i]) != was[i]) {
                    return false;
                }
            }
            return true;
        }
    }
}
