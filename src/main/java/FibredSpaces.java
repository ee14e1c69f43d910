import java.util.Arrays;

/** Seifert fibred spaces on a shelf, given by their Seifert invariants. */
public final class FibredSpaces {
    public static final int BAD = -1, STATE = -2, FULL = -3, NONE = -9;
    public static final long NO = -1000000000000000000L;

    private static final int SPACES = 6;
    private static final int MOST_FIBRES = 6;
    private static final int MOST_GENUS = 4;
    private static final int MOST_SHIFT = 999;
    private static final int MOST_A = 30;
    private static final int MOST_B = 99;
    private static final int MOST_BYTES = 100;
    private static final int MOST_PAIRS = 8;
    private static final int MOST_UNDONE = 6;
    private static final int MOST_SEEN = 6;
    private static final int IMAGES = 2;
    private static final int LEAST_ORDER = 2;
    private static final int MOST_ORDER = 12;
    private static final int MOST_TURN = 9;

    private final Shelf shelf = new Shelf();
    private final History history = new History();
    private final Shelf[] images = new Shelf[IMAGES];
    private final boolean[] saved = new boolean[IMAGES];
    private final Telling telling = new Telling();
    private final Sightings sightings = new Sightings();
    private final Space draft = new Space();
    private final Homology homology = new Homology();
    private final Fraction fraction = new Fraction();
    private final Permuting permuting = new Permuting();
    private final LensSpace lensSpace = new LensSpace();
    private final long[] answers = new long[SPACES];

    public FibredSpaces() {
        for (int k = 0; k < IMAGES; k++) {
            images[k] = new Shelf();
        }
    }

    // ---- what is told

    public int type(int letter) {
        if (letter < 0 || letter > 255) {
            return BAD;
        }
        if (telling.length >= MOST_BYTES) {
            return FULL;
        }
        telling.append(letter);
        return telling.length;
    }

    public int clear() {
        int had = telling.length;
        telling.length = 0;
        return had;
    }

    public int tells(int i) {
        if (!isSpace(i)) {
            return BAD;
        }
        int items = telling.describe(draft);
        if (items < 0) {
            return items;
        }
        int answer = settle(i, items);
        if (answer >= 0) {
            telling.length = 0;
        }
        return answer;
    }

    // ---- what is done

    public int mirrors(int i) {
        if (!isSpace(i)) {
            return BAD;
        }
        Space old = shelf.spaces[i];
        draft.becomeMultiple(old, -1);
        return settle(i, draft.sameAs(old) ? 1 : 0);
    }

    public int joins(int i, int j, int k) {
        if (!isSpace(i) || !isSpace(j) || !isSpace(k)) {
            return BAD;
        }
        draft.becomeJoin(shelf.spaces[j], shelf.spaces[k]);
        return settle(i, draft.fibres);
    }

    public int fills(int i, int a, int b) {
        if (!isSpace(i) || a < 1 || a > MOST_A || b < -MOST_B || b > MOST_B) {
            return BAD;
        }
        if (Numbers.gcd(a, b) != 1) {
            return BAD;
        }
        draft.copy(shelf.spaces[i]);
        draft.put(a, b);
        return settle(i, draft.fibres);
    }

    public int drills(int i, int k) {
        if (!isFibre(i, k)) {
            return BAD;
        }
        draft.becomeWithout(shelf.spaces[i], k);
        return settle(i, draft.fibres);
    }

    public int turnsOn(int i, int m) {
        if (!isSpace(i) || m < 2 || m > MOST_TURN) {
            return BAD;
        }
        if (!shelf.spaces[i].isCoprimeTo(m)) {
            return STATE;
        }
        draft.becomeMultiple(shelf.spaces[i], m);
        return settle(i, 1);
    }

    public int unwraps(int i, int m) {
        if (!isSpace(i) || m < 2 || m > MOST_TURN) {
            return BAD;
        }
        if (!shelf.spaces[i].isCoprimeTo(m) || !draft.becomePart(shelf.spaces[i], m)) {
            return STATE;
        }
        return settle(i, 1);
    }

    public int unrolls(int i, int d) {
        if (!isSpace(i) || d < 2 || d > 3) {
            return BAD;
        }
        Space old = shelf.spaces[i];
        if (old.genus < old.kind + 1) {
            return STATE;
        }
        draft.becomeCovering(old, d);
        return settle(i, draft.fibres);
    }

    public int undo() {
        if (history.size <= 0) {
            return STATE;
        }
        history.restore(shelf);
        return history.size;
    }

    // ---- spaces

    public long space(int i, int what) {
        if (!isSpace(i)) {
            return NO;
        }
        Space s = shelf.spaces[i];
        switch (what) {
            case 0:
                return s.kind;
            case 1:
                return s.genus;
            case 2:
                return s.shift;
            case 3:
                return s.fibres;
            case 4:
                homology.study(s);
                return homology.rank;
            case 5:
                homology.study(s);
                return homology.size;
            case 6:
                return s.geometry();
            default:
                return NO;
        }
    }

    public int fibre(int i, int k, int what) {
        if (!isFibre(i, k) || what < 0 || what > 1) {
            return BAD;
        }
        return what == 0 ? shelf.spaces[i].as[k] : shelf.spaces[i].bs[k];
    }

    public long euler(int i, int part) {
        if (!isSpace(i) || part < 0 || part > 1) {
            return NO;
        }
        Space s = shelf.spaces[i];
        fraction.reduce(-s.eulerTop(), s.allA());
        return part == 0 ? fraction.top : fraction.bottom;
    }

    public long over(int i, int part) {
        if (!isSpace(i) || part < 0 || part > 1) {
            return NO;
        }
        Space s = shelf.spaces[i];
        fraction.reduce(s.characteristicTop(), s.allA());
        return part == 0 ? fraction.top : fraction.bottom;
    }

    public int like(int i, int j) {
        if (!isSpace(i) || !isSpace(j)) {
            return BAD;
        }
        draft.becomeMultiple(shelf.spaces[i], -1);
        int alike = shelf.spaces[i].sameAs(shelf.spaces[j]) ? 1 : 0;
        int mirrored = draft.sameAs(shelf.spaces[j]) ? 2 : 0;
        return alike + mirrored;
    }

    // ---- groups

    public long torsion(int i, int k) {
        if (!isSpace(i) || k < -1) {
            return BAD;
        }
        homology.study(shelf.spaces[i]);
        if (k == -1) {
            return homology.order();
        }
        return k < homology.size ? homology.torsion[k] : NONE;
    }

    public long maps(int i, int m) {
        if (!isSpace(i) || !isOrder(m)) {
            return BAD;
        }
        return cyclicMaps(i, m);
    }

    public long threes(int i) {
        if (!isSpace(i)) {
            return BAD;
        }
        return permuting.ways(shelf.spaces[i]);
    }

    public long lens(int i, int what) {
        if (!isSpace(i) || what < 0 || what > 1) {
            return BAD;
        }
        Space s = shelf.spaces[i];
        if (s.kind != 0 || s.genus != 0 || s.fibres > 2) {
            return STATE;
        }
        lensSpace.study(s);
        return what == 0 ? lensSpace.p : lensSpace.q;
    }

    // ---- which was seen

    public int sees(int m, long v) {
        if (!isOrder(m) || v < 0) {
            return BAD;
        }
        if (sightings.size >= MOST_SEEN) {
            return FULL;
        }
        sightings.add(m, v);
        return sightings.size;
    }

    public int forget() {
        int had = sightings.size;
        sightings.size = 0;
        return had;
    }

    public int which() {
        return candidates();
    }

    public int ask() {
        int candidates = candidates();
        if (Integer.bitCount(candidates) < 2) {
            return NONE;
        }
        int best = LEAST_ORDER;
        int least = SPACES + 1;
        for (int m = LEAST_ORDER; m <= MOST_ORDER; m++) {
            int greatest = greatestClass(candidates, m);
            if (greatest < least) {
                least = greatest;
                best = m;
            }
        }
        return best;
    }

    // ---- images

    public int keep(int image) {
        if (image < 0 || image >= IMAGES) {
            return BAD;
        }
        images[image].copy(shelf);
        saved[image] = true;
        return shelf.allFibres();
    }

    public int back(int image) {
        if (image < 0 || image >= IMAGES) {
            return BAD;
        }
        if (!saved[image]) {
            return STATE;
        }
        shelf.copy(images[image]);
        history.size = 0;
        return shelf.allFibres();
    }

    public int count(int what) {
        switch (what) {
            case 0:
                return shelf.allFibres();
            case 1:
                return sightings.size;
            case 2:
                return telling.length;
            case 3:
                return history.size;
            default:
                return BAD;
        }
    }

    // ---- what the calls share

    private static boolean isSpace(int i) {
        return i >= 0 && i < SPACES;
    }

    private boolean isFibre(int i, int k) {
        return isSpace(i) && k >= 0 && k < shelf.spaces[i].fibres;
    }

    private static boolean isOrder(int m) {
        return m >= LEAST_ORDER && m <= MOST_ORDER;
    }

    /** Ends an action: puts the draft in the place of space i if it is a space at all. */
    private int settle(int i, int answer) {
        if (!draft.fits()) {
            return FULL;
        }
        history.save(shelf);
        shelf.spaces[i].copy(draft);
        return answer;
    }

    private long cyclicMaps(int i, int m) {
        homology.study(shelf.spaces[i]);
        return homology.mapsInto(m);
    }

    /** The spaces for which all observations are true, as bits. */
    private int candidates() {
        int set = 0;
        for (int i = 0; i < SPACES; i++) {
            homology.study(shelf.spaces[i]);
            if (sightings.agree(homology)) {
                set |= 1 << i;
            }
        }
        return set;
    }

    /** How many of the candidates share a number of maps with m, where most of them do. */
    private int greatestClass(int candidates, int m) {
        for (int i = 0; i < SPACES; i++) {
            answers[i] = cyclicMaps(i, m);
        }
        int greatest = 0;
        for (int i = 0; i < SPACES; i++) {
            int same = 0;
            for (int j = 0; j < SPACES; j++) {
                boolean both = (candidates >> i & candidates >> j & 1) == 1;
                if (both && answers[i] == answers[j]) {
                    same++;
                }
            }
            greatest = Math.max(greatest, same);
        }
        return greatest;
    }

    /** Arithmetic whose divisors are looked at before they divide. */
    private static final class Numbers {
        /** Euclid's algorithm takes at most 91 steps on two longs. */
        private static final int MOST_STEPS = 200;

        static long gcd(long x, long y) {
            long big = Math.abs(x);
            long small = Math.abs(y);
            for (int step = 0; step < MOST_STEPS && small != 0; step++) {
                long rest = big % small;
                big = small;
                small = rest;
            }
            return big;
        }

        /** x / by, rounded down. */
        static long quotient(long x, long by) {
            return by == 0 ? 0 : Math.floorDiv(x, by);
        }

        /** x modulo m, from 0 to m - 1. */
        static long modulo(long x, long m) {
            return m <= 0 ? 0 : Math.floorMod(x, m);
        }

        /** The inverse of x, which is coprime to m, modulo m. */
        static long inverse(long x, long m) {
            long big = m;
            long small = modulo(x, m);
            long ofBig = 0;
            long ofSmall = 1;
            for (int step = 0; step < MOST_STEPS && small != 0; step++) {
                long times = big / small;
                long rest = big - times * small;
                long ofRest = ofBig - times * ofSmall;
                big = small;
                small = rest;
                ofBig = ofSmall;
                ofSmall = ofRest;
            }
            return modulo(ofBig, m);
        }
    }

    /** A fraction in lowest terms. */
    private static final class Fraction {
        long top;
        long bottom;

        void reduce(long newTop, long newBottom) {
            long common = Numbers.gcd(newTop, newBottom);
            top = Numbers.quotient(newTop, common);
            bottom = Numbers.quotient(newBottom, common);
        }
    }

    /** A space in normal form; as a draft it may be out of range, which fits() tells. */
    private static final class Space {
        int kind;
        int genus;
        int shift;
        int fibres;
        boolean crowded;
        final int[] as = new int[MOST_FIBRES];
        final int[] bs = new int[MOST_FIBRES];

        void start(int newKind, int newGenus, int newShift) {
            kind = newKind;
            genus = newGenus;
            shift = newShift;
            fibres = 0;
            crowded = false;
        }

        void copy(Space from) {
            start(from.kind, from.genus, from.shift);
            fibres = from.fibres;
            crowded = from.crowded;
            for (int k = 0; k < MOST_FIBRES; k++) {
                as[k] = from.as[k];
                bs[k] = from.bs[k];
            }
        }

        boolean fits() {
            return !crowded && genus <= MOST_GENUS && Math.abs(shift) <= MOST_SHIFT;
        }

        /** Adds a pair and normalizes it. */
        void put(int a, int b) {
            shift += (int) Numbers.quotient(b, a);
            if (a > 1) {
                insert(a, (int) Numbers.modulo(b, a));
            }
        }

        private void insert(int a, int b) {
            if (fibres >= MOST_FIBRES) {
                crowded = true;
                return;
            }
            int at = fibres;
            while (at > 0 && (as[at - 1] > a || as[at - 1] == a && bs[at - 1] > b)) {
                as[at] = as[at - 1];
                bs[at] = bs[at - 1];
                at--;
            }
            as[at] = a;
            bs[at] = b;
            fibres++;
        }

        private void putAll(Space from, int factor) {
            for (int k = 0; k < from.fibres; k++) {
                put(from.as[k], from.bs[k] * factor);
            }
        }

        void becomeMultiple(Space from, int factor) {
            start(from.kind, from.genus, from.shift * factor);
            putAll(from, factor);
        }

        /** Becomes the space of which the given one is the multiple; false if there is none. */
        boolean becomePart(Space from, int m) {
            start(from.kind, from.genus, 0);
            int carried = 0;
            for (int k = 0; k < from.fibres; k++) {
                int a = from.as[k];
                int b = (int) Numbers.modulo(from.bs[k] * Numbers.inverse(m, a), a);
                carried += (int) Numbers.quotient(b * m, a);
                put(a, b);
            }
            shift = (int) Numbers.quotient(from.shift - carried, m);
            return shift * m == from.shift - carried;
        }

        void becomeJoin(Space one, Space other) {
            int newKind = Math.max(one.kind, other.kind);
            int newGenus = one.genusAs(newKind) + other.genusAs(newKind);
            start(newKind, newGenus, one.shift + other.shift);
            putAll(one, 1);
            putAll(other, 1);
        }

        private int genusAs(int asKind) {
            return kind == asKind ? genus : 2 * genus;
        }

        void becomeWithout(Space from, int missing) {
            start(from.kind, from.genus, from.shift);
            for (int k = 0; k < from.fibres; k++) {
                if (k != missing) {
                    put(from.as[k], from.bs[k]);
                }
            }
        }

        void becomeCovering(Space from, int sheets) {
            int still = from.kind + 1;
            start(from.kind, sheets * (from.genus - still) + still, from.shift * sheets);
            for (int sheet = 0; sheet < sheets; sheet++) {
                putAll(from, 1);
            }
        }

        boolean sameAs(Space other) {
            boolean same = kind == other.kind && genus == other.genus
                    && shift == other.shift && fibres == other.fibres;
            for (int k = 0; k < fibres && same; k++) {
                same = as[k] == other.as[k] && bs[k] == other.bs[k];
            }
            return same;
        }

        boolean isCoprimeTo(int m) {
            boolean coprime = true;
            for (int k = 0; k < fibres; k++) {
                coprime = coprime && Numbers.gcd(as[k], m) == 1;
            }
            return coprime;
        }

        /** The product of all A: the denominator that the fractions are computed with. */
        long allA() {
            long product = 1;
            for (int k = 0; k < fibres; k++) {
                product *= as[k];
            }
            return product;
        }

        /** (shift + the sum of all B / A) * allA(); up to sign also a determinant of the group. */
        long eulerTop() {
            long all = allA();
            long top = shift * all;
            for (int k = 0; k < fibres; k++) {
                top += bs[k] * Numbers.quotient(all, as[k]);
            }
            return top;
        }

        /** The characteristic of the base * allA(). */
        long characteristicTop() {
            long all = allA();
            long top = (kind == 0 ? 2 - 2 * genus : 2 - genus) * all;
            for (int k = 0; k < fibres; k++) {
                top -= all - Numbers.quotient(all, as[k]);
            }
            return top;
        }

        int geometry() {
            int bend = 1 - Long.signum(characteristicTop());
            return eulerTop() == 0 ? bend : bend + 3;
        }
    }

    private static final class Shelf {
        final Space[] spaces = new Space[SPACES];

        Shelf() {
            for (int i = 0; i < SPACES; i++) {
                spaces[i] = new Space();
            }
        }

        void copy(Shelf from) {
            for (int i = 0; i < SPACES; i++) {
                spaces[i].copy(from.spaces[i]);
            }
        }

        int allFibres() {
            int sum = 0;
            for (int i = 0; i < SPACES; i++) {
                sum += spaces[i].fibres;
            }
            return sum;
        }
    }

    /** The shelf before each of the latest actions, in a ring. */
    private static final class History {
        private final Shelf[] before = new Shelf[MOST_UNDONE];
        private int next;
        int size;

        History() {
            for (int k = 0; k < MOST_UNDONE; k++) {
                before[k] = new Shelf();
            }
        }

        void save(Shelf shelf) {
            before[next].copy(shelf);
            next = (next + 1) % MOST_UNDONE;
            size = Math.min(size + 1, MOST_UNDONE);
        }

        void restore(Shelf shelf) {
            next = (next + MOST_UNDONE - 1) % MOST_UNDONE;
            size = Math.max(size - 1, 0);
            shelf.copy(before[next]);
        }
    }

    /** The text, and how it is read. */
    private static final class Telling {
        private static final int NUMBER = 256;
        private static final int END = 257;
        /** Out of every range, as a number that may stand nowhere must be. */
        private static final int WRONG = 1000;

        private final int[] bytes = new int[MOST_BYTES];
        int length;
        private int at;
        private int token;
        private int tokenAt;
        private int value;
        private int items;
        private int pairs;
        private int crookedPairs;

        void append(int letter) {
            if (length < MOST_BYTES) {
                bytes[length] = letter;
                length++;
            }
        }

        /** Makes the space that is told; returns the number of items, or -10 minus the fault. */
        int describe(Space told) {
            told.start(0, 0, 0);
            at = 0;
            items = 0;
            pairs = 0;
            crookedPairs = 0;
            boolean right = true;
            advance();
            // an item has at least one byte
            for (int k = 0; k <= MOST_BYTES && right && token != END; k++) {
                right = readItem(told);
            }
            return right ? items : -10 - tokenAt;
        }

        /** Reads an item; if it is wrong, the present token is the one that cannot stand there. */
        private boolean readItem(Space told) {
            boolean right;
            if (token == 'o' || token == 'n') {
                right = items == 0 && readBase(told);
            } else {
                right = token == 'f' && pairs < MOST_PAIRS && readPair(told);
            }
            if (!right || token != ';') {
                return false;
            }
            items++;
            advance();
            return true;
        }

        private boolean readBase(Space told) {
            int kind = token == 'o' ? 0 : 1;
            advance();
            if (!isNumber(kind, MOST_GENUS)) {
                return false;
            }
            told.start(kind, value, 0);
            advance();
            return true;
        }

        private boolean readPair(Space told) {
            advance();
            int mostA = crookedPairs < MOST_FIBRES ? MOST_A : 1;
            if (!isNumber(1, mostA)) {
                return false;
            }
            int a = value;
            advance();
            int sign = 1;
            if (token == '-') {
                sign = -1;
                advance();
            }
            if (!isNumber(0, MOST_B) || Numbers.gcd(a, value) != 1) {
                return false;
            }
            told.put(a, sign * value);
            pairs++;
            crookedPairs += a == 1 ? 0 : 1;
            advance();
            return true;
        }

        private boolean isNumber(int least, int most) {
            return token == NUMBER && value >= least && value <= most;
        }

        private void advance() {
            while (at < length && byteAt(at) == ' ') {
                at++;
            }
            tokenAt = at;
            token = at < length ? byteAt(at) : END;
            if (isDigit(at)) {
                token = NUMBER;
                readNumber();
            } else if (at < length) {
                at++;
            }
        }

        private void readNumber() {
            value = 0;
            while (at < length && isDigit(at)) {
                value = Math.min(10 * value + byteAt(at) - '0', WRONG);
                at++;
            }
            boolean zeroAhead = byteAt(tokenAt) == '0' && at > tokenAt + 1;
            if (zeroAhead) {
                value = WRONG;
            }
        }

        private boolean isDigit(int position) {
            return position < length && byteAt(position) >= '0' && byteAt(position) <= '9';
        }

        private int byteAt(int position) {
            return position >= 0 && position < MOST_BYTES ? bytes[position] : 0;
        }
    }

    /**
     * The group of a space, made commutative.
     *
     * <p>Let C0, C1 .. be the orders, each a divisor of the next, of the direct sum of cyclic groups
     * of the orders A; let E(k) be the product of the first k of them, which is the common divisor of
     * all products of k of the A. With n fibres, the common divisor of all minors of size k of the
     * relations is 1 for k = 1 and E(k - 2) for k from 2 to n, since A and B are coprime. For a base
     * of kind 0, what is left is the determinant, eulerTop(). For one of kind 1 (where 2 H = 0, and
     * all V count as one, their sum) there are the sizes n + 1, gcd(eulerTop(), 2 E(n - 1)), and
     * n + 2, 4 E(n). The torsion is the quotients of neighbours.
     */
    private static final class Homology {
        private final long[] chain = new long[MOST_FIBRES];
        final long[] torsion = new long[MOST_FIBRES + 2];
        int size;
        int rank;

        void study(Space s) {
            makeChain(s);
            size = 0;
            for (int k = 0; k < s.fibres - 2; k++) {
                add(chain[k]);
            }
            long determinant = Math.abs(s.eulerTop());
            long done = product(s.fibres - 2);
            if (s.kind == 0) {
                rank = 2 * s.genus + (determinant == 0 ? 1 : 0);
                add(Numbers.quotient(determinant, done));
            } else {
                rank = s.genus - 1;
                long middle = Numbers.gcd(determinant, 2 * product(s.fibres - 1));
                add(Numbers.quotient(middle, done));
                add(Numbers.quotient(4 * product(s.fibres), middle));
            }
        }

        private void makeChain(Space s) {
            for (int k = 0; k < s.fibres; k++) {
                chain[k] = s.as[k];
            }
            for (int k = 0; k < s.fibres; k++) {
                for (int j = k + 1; j < s.fibres; j++) {
                    long common = Numbers.gcd(chain[k], chain[j]);
                    chain[j] *= Numbers.quotient(chain[k], common);
                    chain[k] = common;
                }
            }
        }

        private long product(int links) {
            long product = 1;
            for (int k = 0; k < links && k < MOST_FIBRES; k++) {
                product *= chain[k];
            }
            return product;
        }

        private void add(long order) {
            if (order > 1 && size < torsion.length) {
                torsion[size] = order;
                size++;
            }
        }

        long order() {
            long order = rank == 0 ? 1 : 0;
            for (int k = 0; k < size; k++) {
                order *= torsion[k];
            }
            return order;
        }

        /** A cyclic group takes only maps of the commutative group, one summand at a time. */
        long mapsInto(int m) {
            long ways = 1;
            for (int k = 0; k < rank; k++) {
                ways *= m;
            }
            for (int k = 0; k < size; k++) {
                ways *= Numbers.gcd(torsion[k], m);
            }
            return ways;
        }
    }

    /** The homomorphisms into the symmetric group of three things. */
    private static final class Permuting {
        private static final int ELEMENTS = 6;
        /** Element t + 3 * f is t turns behind f flips; the product of x and y is at 6 * x + y. */
        private static final int[] PRODUCTS = {
            0, 1, 2, 3, 4, 5,
            1, 2, 0, 4, 5, 3,
            2, 0, 1, 5, 3, 4,
            3, 5, 4, 0, 2, 1,
            4, 3, 5, 1, 0, 2,
            5, 4, 3, 2, 1, 0};

        /** For each element, the ways to assign the generators so far with it as their product. */
        private final long[] ways = new long[ELEMENTS];
        /** For each element, the ways of the next generators to give it. */
        private final long[] step = new long[ELEMENTS];
        private final long[] next = new long[ELEMENTS];

        long ways(Space s) {
            long sum = 0;
            for (int h = 0; h < ELEMENTS; h++) {
                sum += waysWith(s, h);
            }
            return sum;
        }

        private long waysWith(Space s, int h) {
            Arrays.fill(ways, 0);
            ways[0] = 1;
            for (int k = 0; k < s.fibres; k++) {
                stepFibre(h, s.as[k], s.bs[k]);
                multiply();
            }
            if (s.kind == 0) {
                stepHandle(h);
            } else {
                stepCrosscap(h);
            }
            for (int k = 0; k < s.genus; k++) {
                multiply();
            }
            return ways[power(h, s.shift)];
        }

        private void stepFibre(int h, int a, int b) {
            Arrays.fill(step, 0);
            for (int q = 0; q < ELEMENTS; q++) {
                if (commute(q, h) && times(power(q, a), power(h, b)) == 0) {
                    step[q]++;
                }
            }
        }

        private void stepHandle(int h) {
            Arrays.fill(step, 0);
            for (int x = 0; x < ELEMENTS; x++) {
                for (int y = 0; y < ELEMENTS; y++) {
                    if (commute(x, h) && commute(y, h)) {
                        step[times(times(x, y), times(inverse(x), inverse(y)))]++;
                    }
                }
            }
        }

        private void stepCrosscap(int h) {
            Arrays.fill(step, 0);
            for (int v = 0; v < ELEMENTS; v++) {
                if (times(v, h) == times(inverse(h), v)) {
                    step[times(v, v)]++;
                }
            }
        }

        private void multiply() {
            Arrays.fill(next, 0);
            for (int x = 0; x < ELEMENTS; x++) {
                for (int y = 0; y < ELEMENTS; y++) {
                    next[times(x, y)] += ways[x] * step[y];
                }
            }
            System.arraycopy(next, 0, ways, 0, ELEMENTS);
        }

        private static boolean commute(int x, int y) {
            return times(x, y) == times(y, x);
        }

        private static int times(int x, int y) {
            return PRODUCTS[ELEMENTS * x + y];
        }

        private static int inverse(int x) {
            return power(x, -1);
        }

        /** The sixth power of every element is 1. */
        private static int power(int x, int exponent) {
            int product = 0;
            int left = Math.floorMod(exponent, ELEMENTS);
            for (int k = 0; k < left; k++) {
                product = times(product, x);
            }
            return product;
        }
    }

    /** The lens parameters of a space that has them. */
    private static final class LensSpace {
        long p;
        long q;

        void study(Space s) {
            long a = s.fibres > 0 ? s.as[0] : 1;
            long b = s.fibres > 0 ? s.bs[0] + a * s.shift : s.shift;
            long c = s.fibres > 1 ? s.as[1] : 1;
            long d = s.fibres > 1 ? s.bs[1] : 0;
            p = Math.abs(a * d + b * c);
            long x = Numbers.modulo(-Numbers.inverse(b, a), a);
            long y = Numbers.quotient(1 + b * x, a);
            q = p <= 1 ? 0 : leastOf(Numbers.modulo(c * y + d * x, p));
        }

        /** Of the four numbers that give the same space, the least. */
        private long leastOf(long first) {
            long inverse = Numbers.inverse(first, p);
            long least = Math.min(first, Numbers.modulo(-first, p));
            return Math.min(least, Math.min(inverse, Numbers.modulo(-inverse, p)));
        }
    }

    /** The observations of an unknown space. */
    private static final class Sightings {
        private final int[] orders = new int[MOST_SEEN];
        private final long[] values = new long[MOST_SEEN];
        int size;

        void add(int m, long v) {
            if (size < MOST_SEEN) {
                orders[size] = m;
                values[size] = v;
                size++;
            }
        }

        boolean agree(Homology homology) {
            boolean agree = true;
            for (int k = 0; k < size; k++) {
                agree = agree && homology.mapsInto(orders[k]) == values[k];
            }
            return agree;
        }
    }
}
