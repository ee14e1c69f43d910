import java.math.BigInteger;
import java.util.ArrayDeque;
import java.util.ArrayList;
import java.util.Arrays;
import java.util.Comparator;
import java.util.HashMap;
import java.util.List;
import java.util.Map;
import java.util.function.IntPredicate;

/**
 * The document once more, written in another way than the class: it enumerates, searches and uses
 * big integers where the class uses formulas. The random runs compare both.
 */
final class Model {
    static final int BAD = -1, STATE = -2, FULL = -3, NONE = -9;
    static final long NO = -1000000000000000000L;

    /** A space that never changes. */
    record Space(int kind, int genus, int shift, List<List<Integer>> fibres) {
        static Space normal(int kind, int genus, int shift, List<int[]> pairs) {
            int sum = shift;
            List<List<Integer>> fibres = new ArrayList<>();
            for (int[] p : pairs) {
                if (p[0] == 1) {
                    sum += p[1];
                    continue;
                }
                int down = (int) Math.floor((double) p[1] / p[0]);
                sum += down;
                fibres.add(List.of(p[0], p[1] - p[0] * down));
            }
            fibres.sort(Comparator.comparing((List<Integer> f) -> f.get(0)).thenComparing(f -> f.get(1)));
            return new Space(kind, genus, sum, List.copyOf(fibres));
        }

        List<int[]> pairs(int factor) {
            List<int[]> pairs = new ArrayList<>();
            for (List<Integer> f : fibres) {
                pairs.add(new int[] {f.get(0), f.get(1) * factor});
            }
            return pairs;
        }

        Space times(int factor) {
            return normal(kind, genus, shift * factor, pairs(factor));
        }

        boolean coprimeTo(int m) {
            return fibres.stream().allMatch(f -> gcd(f.get(0), m) == 1);
        }

        boolean fits() {
            return fibres.size() <= 6 && genus <= 4 && shift >= -999 && shift <= 999;
        }
    }

    List<Space> shelf = new ArrayList<>();
    final StringBuilder text = new StringBuilder();
    final ArrayDeque<List<Space>> before = new ArrayDeque<>();
    final List<long[]> seen = new ArrayList<>();
    final Map<Integer, List<Space>> images = new HashMap<>();

    Model() {
        for (int i = 0; i < 6; i++) {
            shelf.add(Space.normal(0, 0, 0, List.of()));
        }
    }

    static int gcd(int a, int b) {
        return BigInteger.valueOf(a).gcd(BigInteger.valueOf(b)).intValue();
    }

    private static boolean in(long x, long least, long most) {
        return x >= least && x <= most;
    }

    private static boolean no(int i) {
        return !in(i, 0, 5);
    }

    private int act(int i, Space s, int answer) {
        if (!s.fits()) {
            return FULL;
        }
        before.addLast(List.copyOf(shelf));
        if (before.size() > 6) {
            before.removeFirst();
        }
        shelf.set(i, s);
        return answer;
    }

    int type(int letter) {
        if (!in(letter, 0, 255)) {
            return BAD;
        }
        if (text.length() == 100) {
            return FULL;
        }
        return text.append((char) letter).length();
    }

    int clear() {
        int had = text.length();
        text.setLength(0);
        return had;
    }

    int tells(int i) {
        if (no(i)) {
            return BAD;
        }
        Reading r = new Reading(text.toString());
        if (r.fault >= 0) {
            return -10 - r.fault;
        }
        text.setLength(0);
        return act(i, Space.normal(r.kind, r.genus, 0, r.pairs), r.items);
    }

    int mirrors(int i) {
        if (no(i)) {
            return BAD;
        }
        Space old = shelf.get(i);
        Space s = old.times(-1);
        return act(i, s, s.equals(old) ? 1 : 0);
    }

    int joins(int i, int j, int k) {
        if (no(i) || no(j) || no(k)) {
            return BAD;
        }
        Space a = shelf.get(j);
        Space b = shelf.get(k);
        List<int[]> pairs = a.pairs(1);
        pairs.addAll(b.pairs(1));
        int kind = a.kind == 0 && b.kind == 0 ? 0 : 1;
        int genus = a.genus + b.genus;
        if (kind == 1) {
            genus = (a.kind == 0 ? 2 * a.genus : a.genus) + (b.kind == 0 ? 2 * b.genus : b.genus);
        }
        return act(i, Space.normal(kind, genus, a.shift + b.shift, pairs), pairs.size());
    }

    int fills(int i, int a, int b) {
        if (no(i) || !in(a, 1, 30) || !in(b, -99, 99) || gcd(a, b) != 1) {
            return BAD;
        }
        Space old = shelf.get(i);
        List<int[]> pairs = old.pairs(1);
        pairs.add(new int[] {a, b});
        Space s = Space.normal(old.kind, old.genus, old.shift, pairs);
        return act(i, s, s.fibres.size());
    }

    int drills(int i, int k) {
        if (no(i) || !in(k, 0, shelf.get(i).fibres.size() - 1)) {
            return BAD;
        }
        Space old = shelf.get(i);
        List<int[]> pairs = old.pairs(1);
        pairs.remove(k);
        return act(i, Space.normal(old.kind, old.genus, old.shift, pairs), pairs.size());
    }

    int turnsOn(int i, int m) {
        if (no(i) || !in(m, 2, 9)) {
            return BAD;
        }
        return shelf.get(i).coprimeTo(m) ? act(i, shelf.get(i).times(m), 1) : STATE;
    }

    /** Tries all B for each fibre, and all shifts. */
    int unwraps(int i, int m) {
        if (no(i) || !in(m, 2, 9)) {
            return BAD;
        }
        Space old = shelf.get(i);
        if (!old.coprimeTo(m)) {
            return STATE;
        }
        List<int[]> pairs = new ArrayList<>();
        for (List<Integer> f : old.fibres) {
            for (int b = 1; b < f.get(0); b++) {
                if (b * m % f.get(0) == f.get(1)) {
                    pairs.add(new int[] {f.get(0), b});
                }
            }
        }
        for (int shift = -999; shift <= 999; shift++) {
            Space s = Space.normal(old.kind, old.genus, shift, pairs);
            if (s.times(m).equals(old)) {
                return act(i, s, 1);
            }
        }
        return STATE;
    }

    int unrolls(int i, int d) {
        if (no(i) || !in(d, 2, 3)) {
            return BAD;
        }
        Space old = shelf.get(i);
        if (old.genus < (old.kind == 0 ? 1 : 2)) {
            return STATE;
        }
        List<int[]> pairs = new ArrayList<>();
        for (int k = 0; k < d; k++) {
            pairs.addAll(old.pairs(1));
        }
        int genus = old.kind == 0 ? d * (old.genus - 1) + 1 : d * (old.genus - 2) + 2;
        return act(i, Space.normal(old.kind, genus, d * old.shift, pairs), pairs.size());
    }

    int undo() {
        if (before.isEmpty()) {
            return STATE;
        }
        shelf = new ArrayList<>(before.removeLast());
        return before.size();
    }

    long space(int i, int what) {
        if (no(i) || !in(what, 0, 6)) {
            return NO;
        }
        Space s = shelf.get(i);
        return switch (what) {
            case 0 -> s.kind;
            case 1 -> s.genus;
            case 2 -> s.shift;
            case 3 -> s.fibres.size();
            case 4 -> generators(s) - factors(s).size();
            case 5 -> divisors(s).size();
            default -> 1 - over(s)[0].signum() + (euler(s)[0].signum() == 0 ? 0 : 3);
        };
    }

    int fibre(int i, int k, int what) {
        if (no(i) || !in(what, 0, 1) || !in(k, 0, shelf.get(i).fibres.size() - 1)) {
            return BAD;
        }
        return shelf.get(i).fibres.get(k).get(what);
    }

    long euler(int i, int part) {
        return no(i) || !in(part, 0, 1) ? NO : euler(shelf.get(i))[part].longValueExact();
    }

    long over(int i, int part) {
        return no(i) || !in(part, 0, 1) ? NO : over(shelf.get(i))[part].longValueExact();
    }

    private static BigInteger big(long x) {
        return BigInteger.valueOf(x);
    }

    private static BigInteger[] sum(BigInteger[] f, long top, long bottom) {
        BigInteger t = f[0].multiply(big(bottom)).add(f[1].multiply(big(top)));
        BigInteger b = f[1].multiply(big(bottom));
        BigInteger g = t.gcd(b);
        return new BigInteger[] {t.divide(g), b.divide(g)};
    }

    private static BigInteger[] euler(Space s) {
        BigInteger[] f = {big(-s.shift), big(1)};
        for (List<Integer> p : s.fibres) {
            f = sum(f, -p.get(1), p.get(0));
        }
        return f;
    }

    private static BigInteger[] over(Space s) {
        BigInteger[] f = {big(s.kind == 0 ? 2 - 2 * s.genus : 2 - s.genus), big(1)};
        for (List<Integer> p : s.fibres) {
            f = sum(f, 1 - p.get(0), p.get(0));
        }
        return f;
    }

    int like(int i, int j) {
        if (no(i) || no(j)) {
            return BAD;
        }
        return (shelf.get(i).equals(shelf.get(j)) ? 1 : 0) + (shelf.get(i).times(-1).equals(shelf.get(j)) ? 2 : 0);
    }

    long torsion(int i, int k) {
        if (no(i) || k < -1) {
            return BAD;
        }
        List<BigInteger> d = divisors(shelf.get(i));
        if (k >= 0) {
            return k < d.size() ? d.get(k).longValueExact() : NONE;
        }
        BigInteger order = generators(shelf.get(i)) > factors(shelf.get(i)).size() ? big(0) : big(1);
        for (BigInteger x : d) {
            order = order.multiply(x);
        }
        return order.longValueExact();
    }

    private static int generators(Space s) {
        return 1 + s.fibres.size() + s.genus * (s.kind == 0 ? 2 : 1);
    }

    private static List<BigInteger> divisors(Space s) {
        return factors(s).stream().filter(x -> x.compareTo(BigInteger.ONE) > 0).toList();
    }

    private static final Map<Space, List<BigInteger>> KNOWN = new HashMap<>();

    /** The numbers other than 0 of the diagonal form of all relations, with all generators. */
    private static List<BigInteger> factors(Space s) {
        return KNOWN.computeIfAbsent(s, Model::computeFactors);
    }

    private static List<BigInteger> computeFactors(Space s) {
        int columns = generators(s);
        List<BigInteger[]> rows = new ArrayList<>();
        BigInteger[] last = zeros(columns);
        last[0] = big(-s.shift);
        for (int k = 0; k < s.fibres.size(); k++) {
            BigInteger[] row = zeros(columns);
            row[1 + k] = big(s.fibres.get(k).get(0));
            row[0] = big(s.fibres.get(k).get(1));
            rows.add(row);
            last[1 + k] = big(1);
        }
        for (int k = 0; s.kind == 1 && k < s.genus; k++) {
            BigInteger[] row = zeros(columns);
            row[0] = big(2);
            rows.add(row);
            last[1 + s.fibres.size() + k] = big(2);
        }
        rows.add(last);
        return diagonal(rows.toArray(new BigInteger[0][]), columns);
    }

    private static BigInteger[] zeros(int n) {
        BigInteger[] row = new BigInteger[n];
        Arrays.fill(row, BigInteger.ZERO);
        return row;
    }

    private static List<BigInteger> diagonal(BigInteger[][] m, int columns) {
        List<BigInteger> found = new ArrayList<>();
        for (int t = 0; t < m.length && t < columns; t++) {
            while (true) {
                int[] at = smallest(m, t, columns);
                if (at == null) {
                    return found;
                }
                BigInteger[] row = m[at[0]];
                m[at[0]] = m[t];
                m[t] = row;
                for (BigInteger[] r : m) {
                    BigInteger x = r[at[1]];
                    r[at[1]] = r[t];
                    r[t] = x;
                }
                if (clean(m, t, columns)) {
                    break;
                }
            }
            found.add(m[t][t].abs());
        }
        return found;
    }

    private static int[] smallest(BigInteger[][] m, int t, int columns) {
        int[] at = null;
        for (int i = t; i < m.length; i++) {
            for (int j = t; j < columns; j++) {
                boolean less = at == null || m[i][j].abs().compareTo(m[at[0]][at[1]].abs()) < 0;
                if (m[i][j].signum() != 0 && less) {
                    at = new int[] {i, j};
                }
            }
        }
        return at;
    }

    /** Reduces by the pivot at (t, t); true if it is alone in its row and column and divides the rest. */
    private static boolean clean(BigInteger[][] m, int t, int columns) {
        boolean alone = true;
        for (int i = t + 1; i < m.length; i++) {
            BigInteger q = m[i][t].divide(m[t][t]);
            for (int j = t; j < columns; j++) {
                m[i][j] = m[i][j].subtract(q.multiply(m[t][j]));
            }
            alone &= m[i][t].signum() == 0;
        }
        for (int j = t + 1; j < columns; j++) {
            BigInteger q = m[t][j].divide(m[t][t]);
            for (int i = t; i < m.length; i++) {
                m[i][j] = m[i][j].subtract(q.multiply(m[i][t]));
            }
            alone &= m[t][j].signum() == 0;
        }
        if (!alone) {
            return false;
        }
        for (int i = t + 1; i < m.length; i++) {
            for (int j = t + 1; j < columns; j++) {
                if (m[i][j].mod(m[t][t].abs()).signum() != 0) {
                    for (int c = t; c < columns; c++) {
                        m[t][c] = m[t][c].add(m[i][c]);
                    }
                    return false;
                }
            }
        }
        return true;
    }

    long maps(int i, int m) {
        return no(i) || !in(m, 2, 12) ? BAD : cyclic(shelf.get(i), m);
    }

    /** Goes through all numbers for H, and counts the sums of the other generators. */
    static long cyclic(Space s, int m) {
        long all = 0;
        for (int h = 0; h < m; h++) {
            if (s.kind == 1 && 2 * h % m != 0) {
                continue;
            }
            long[] sums = new long[m];
            sums[0] = 1;
            for (List<Integer> f : s.fibres) {
                int twist = f.get(1) * h;
                sums = added(sums, q -> (f.get(0) * q + twist) % m == 0, 1);
            }
            for (int k = 0; k < s.genus; k++) {
                sums = s.kind == 0 ? added(added(sums, x -> true, 0), y -> true, 0) : added(sums, v -> true, 2);
            }
            all += sums[Math.floorMod(s.shift * h, m)];
        }
        return all;
    }

    private static long[] added(long[] sums, IntPredicate allowed, int times) {
        int m = sums.length;
        long[] next = new long[m];
        for (int q = 0; q < m; q++) {
            for (int r = 0; allowed.test(q) && r < m; r++) {
                next[(r + times * q) % m] += sums[r];
            }
        }
        return next;
    }

    long threes(int i) {
        return no(i) ? BAD : symmetric(shelf.get(i));
    }

    private static final List<String> PERMUTATIONS = List.of("012", "021", "102", "120", "201", "210");

    /** A permutation is a text; x behind y. */
    static String times(String x, String y) {
        StringBuilder t = new StringBuilder();
        for (int k = 0; k < 3; k++) {
            t.append(x.charAt(y.charAt(k) - '0'));
        }
        return t.toString();
    }

    static String inverse(String x) {
        return PERMUTATIONS.stream().filter(y -> times(x, y).equals("012")).findFirst().orElseThrow();
    }

    static String power(String x, int e) {
        String base = e < 0 ? inverse(x) : x;
        String t = "012";
        for (int k = 0; k < Math.abs(e); k++) {
            t = times(t, base);
        }
        return t;
    }

    static long symmetric(Space s) {
        long all = 0;
        for (String h : PERMUTATIONS) {
            Map<String, Long> products = Map.of("012", 1L);
            for (List<Integer> f : s.fibres) {
                Map<String, Long> next = new HashMap<>();
                for (String q : PERMUTATIONS) {
                    if (times(q, h).equals(times(h, q))
                            && times(power(q, f.get(0)), power(h, f.get(1))).equals("012")) {
                        products.forEach((p, n) -> next.merge(times(p, q), n, Long::sum));
                    }
                }
                products = next;
            }
            for (int k = 0; k < s.genus; k++) {
                products = s.kind == 0 ? handled(products, h) : crossed(products, h);
            }
            all += products.getOrDefault(power(h, s.shift), 0L);
        }
        return all;
    }

    private static Map<String, Long> handled(Map<String, Long> products, String h) {
        Map<String, Long> next = new HashMap<>();
        for (String x : PERMUTATIONS) {
            for (String y : PERMUTATIONS) {
                if (times(x, h).equals(times(h, x)) && times(y, h).equals(times(h, y))) {
                    String c = times(times(times(x, y), inverse(x)), inverse(y));
                    products.forEach((p, n) -> next.merge(times(p, c), n, Long::sum));
                }
            }
        }
        return next;
    }

    private static Map<String, Long> crossed(Map<String, Long> products, String h) {
        Map<String, Long> next = new HashMap<>();
        for (String v : PERMUTATIONS) {
            if (times(v, h).equals(times(inverse(h), v))) {
                products.forEach((p, n) -> next.merge(times(times(p, v), v), n, Long::sum));
            }
        }
        return next;
    }

    long lens(int i, int what) {
        if (no(i) || !in(what, 0, 1)) {
            return BAD;
        }
        Space s = shelf.get(i);
        if (s.kind != 0 || s.genus != 0 || s.fibres.size() > 2) {
            return STATE;
        }
        int a = s.fibres.isEmpty() ? 1 : s.fibres.get(0).get(0);
        int b = s.fibres.isEmpty() ? s.shift : s.fibres.get(0).get(1) + a * s.shift;
        int c = s.fibres.size() < 2 ? 1 : s.fibres.get(1).get(0);
        int d = s.fibres.size() < 2 ? 0 : s.fibres.get(1).get(1);
        int p = Math.abs(a * d + b * c);
        if (what == 0 || p < 2) {
            return what == 0 ? p : 0;
        }
        int x = 0;
        // another x than the least one, as any has to do
        for (int t = 5 * a; t < 6 * a; t++) {
            if ((1 + b * t) % a == 0) {
                x = t;
            }
        }
        int y = (1 + b * x) / a;
        BigInteger q = big(c * y + d * x).mod(big(p));
        BigInteger r = q.modInverse(big(p));
        return q.min(q.negate().mod(big(p))).min(r).min(r.negate().mod(big(p))).longValueExact();
    }

    int sees(int m, long v) {
        if (!in(m, 2, 12) || v < 0) {
            return BAD;
        }
        if (seen.size() == 6) {
            return FULL;
        }
        seen.add(new long[] {m, v});
        return seen.size();
    }

    int forget() {
        int had = seen.size();
        seen.clear();
        return had;
    }

    private List<Integer> candidates() {
        List<Integer> found = new ArrayList<>();
        for (int i = 0; i < 6; i++) {
            Space s = shelf.get(i);
            if (seen.stream().allMatch(o -> cyclic(s, (int) o[0]) == o[1])) {
                found.add(i);
            }
        }
        return found;
    }

    int which() {
        return candidates().stream().mapToInt(i -> 1 << i).sum();
    }

    int ask() {
        List<Integer> found = candidates();
        if (found.size() < 2) {
            return NONE;
        }
        int best = 0;
        int least = 99;
        for (int m = 12; m >= 2; m--) {
            Map<Long, Integer> classes = new HashMap<>();
            for (int i : found) {
                classes.merge(cyclic(shelf.get(i), m), 1, Integer::sum);
            }
            int greatest = classes.values().stream().max(Integer::compare).orElseThrow();
            if (greatest <= least) {
                least = greatest;
                best = m;
            }
        }
        return best;
    }

    int keep(int image) {
        if (!in(image, 0, 1)) {
            return BAD;
        }
        images.put(image, List.copyOf(shelf));
        return count(0);
    }

    int back(int image) {
        if (!in(image, 0, 1)) {
            return BAD;
        }
        if (!images.containsKey(image)) {
            return STATE;
        }
        shelf = new ArrayList<>(images.get(image));
        before.clear();
        return count(0);
    }

    int count(int what) {
        return switch (what) {
            case 0 -> shelf.stream().mapToInt(s -> s.fibres.size()).sum();
            case 1 -> seen.size();
            case 2 -> text.length();
            case 3 -> before.size();
            default -> BAD;
        };
    }
}
