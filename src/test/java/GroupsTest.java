import java.util.ArrayList;
import java.util.List;
import java.util.Random;

/** Promises 13 and 18 to 21 on spaces whose groups are small enough to try every assignment. */
public final class GroupsTest {
    private static final List<String> PERMUTATIONS = List.of("012", "021", "102", "120", "201", "210");

    public static void main(String[] args) {
        Random random = new Random(11);
        for (int k = 0; k < 1500; k++) {
            int kind = random.nextInt(2);
            int genus = kind == 0 ? random.nextInt(2) : 1 + random.nextInt(2);
            List<int[]> pairs = new ArrayList<>();
            for (int p = random.nextInt(4); p > 0; p--) {
                int a = 2 + random.nextInt(11);
                int b = 1 + random.nextInt(a - 1);
                pairs.add(new int[] {a, Model.gcd(a, b) == 1 ? b : 1});
            }
            check(kind, genus, random.nextInt(13) - 6, pairs);
        }
        allLensSpaces();
        everyOneOrTwo();
        Due.end();
    }

    private static FibredSpaces make(int kind, int genus, int shift, List<int[]> pairs) {
        FibredSpaces x = new FibredSpaces();
        Due.type(x, (kind == 0 ? "o" : "n") + genus + ";");
        x.tells(0);
        x.fills(0, 1, shift);
        for (int[] p : pairs) {
            x.fills(0, p[0], p[1]);
        }
        return x;
    }

    private static void check(int kind, int genus, int shift, List<int[]> pairs) {
        FibredSpaces x = make(kind, genus, shift, pairs);
        StringBuilder name = new StringBuilder("kind " + kind + " genus " + genus + " shift " + shift);
        List<int[]> fibres = new ArrayList<>();
        for (int k = 0; k < x.space(0, 3); k++) {
            fibres.add(new int[] {x.fibre(0, k, 0), x.fibre(0, k, 1)});
            name.append(" ").append(x.fibre(0, k, 0)).append("/").append(x.fibre(0, k, 1));
        }
        int generators = 1 + fibres.size() + genus * (kind == 0 ? 2 : 1);
        for (int m = 2; m <= 12; m++) {
            if (Math.pow(m, generators) < 20000) {
                long want = tryNumbers(kind, genus, shift, fibres, m);
                Due.is("maps with " + m + " of " + name, x.maps(0, m), want);
            }
        }
        if (generators <= 5) {
            Due.is("threes of " + name, x.threes(0), tryPermutations(kind, genus, shift, fibres));
        }
        checkTorsion(name.toString(), x);
    }

    /** The torsion is a chain of divisors whose number of maps is that of the group. */
    private static void checkTorsion(String name, FibredSpaces x) {
        long size = x.space(0, 5);
        long order = 1;
        for (int k = 0; k < size; k++) {
            long d = x.torsion(0, k);
            Due.is("torsion above 1 of " + name, d > 1 ? 1 : 0, 1);
            Due.is("chain of " + name, k == 0 ? 0 : d % x.torsion(0, k - 1), 0);
            order *= d;
        }
        Due.is("behind the torsion of " + name, x.torsion(0, (int) size), FibredSpaces.NONE);
        Due.is("order of " + name, x.torsion(0, -1), x.space(0, 4) == 0 ? order : 0);
    }

    private static long tryNumbers(int kind, int genus, int shift, List<int[]> fibres, int m) {
        int n = fibres.size();
        int generators = 1 + n + genus * (kind == 0 ? 2 : 1);
        int[] g = new int[generators];
        long found = 0;
        while (true) {
            boolean holds = kind == 0 || 2 * g[0] % m == 0;
            int sum = -shift * g[0];
            for (int k = 0; k < n; k++) {
                holds &= (fibres.get(k)[0] * g[1 + k] + fibres.get(k)[1] * g[0]) % m == 0;
                sum += g[1 + k];
            }
            for (int k = 1 + n; kind == 1 && k < generators; k++) {
                sum += 2 * g[k];
            }
            found += holds && sum % m == 0 ? 1 : 0;
            if (!count(g, m)) {
                return found;
            }
        }
    }

    private static boolean count(int[] g, int m) {
        for (int k = 0; k < g.length; k++) {
            g[k]++;
            if (g[k] < m) {
                return true;
            }
            g[k] = 0;
        }
        return false;
    }

    private static long tryPermutations(int kind, int genus, int shift, List<int[]> fibres) {
        int n = fibres.size();
        int[] g = new int[1 + n + genus * (kind == 0 ? 2 : 1)];
        long found = 0;
        while (true) {
            String h = PERMUTATIONS.get(g[0]);
            boolean holds = true;
            String product = "012";
            for (int k = 0; k < n; k++) {
                String q = PERMUTATIONS.get(g[1 + k]);
                holds &= Model.times(q, h).equals(Model.times(h, q));
                holds &= Model.times(Model.power(q, fibres.get(k)[0]), Model.power(h, fibres.get(k)[1])).equals("012");
                product = Model.times(product, q);
            }
            for (int k = 0; k < genus && kind == 0; k++) {
                String v = PERMUTATIONS.get(g[1 + n + 2 * k]);
                String w = PERMUTATIONS.get(g[2 + n + 2 * k]);
                holds &= Model.times(v, h).equals(Model.times(h, v)) && Model.times(w, h).equals(Model.times(h, w));
                String there = Model.times(v, w);
                product = Model.times(product, Model.times(there, Model.inverse(Model.times(w, v))));
            }
            for (int k = 0; k < genus && kind == 1; k++) {
                String v = PERMUTATIONS.get(g[1 + n + k]);
                holds &= Model.times(v, h).equals(Model.times(Model.inverse(h), v));
                product = Model.times(product, Model.times(v, v));
            }
            found += holds && product.equals(Model.power(h, shift)) ? 1 : 0;
            if (!count(g, 6)) {
                return found;
            }
        }
    }

    /** Without fibres, the space with shift P is the lens space of P and 1. */
    private static void allLensSpaces() {
        for (int shift = -99; shift <= 99; shift++) {
            FibredSpaces x = make(0, 0, shift, List.of());
            Due.is("P of shift " + shift, x.lens(0, 0), Math.abs(shift));
            Due.is("Q of shift " + shift, x.lens(0, 1), Math.abs(shift) > 1 ? 1 : 0);
        }
    }

    /** One and two fibres: P is the order, and the model finds the same Q. */
    private static void everyOneOrTwo() {
        Random random = new Random(3);
        for (int a = 2; a <= 30; a++) {
            for (int b = 1; b < a; b++) {
                if (Model.gcd(a, b) == 1) {
                    FibredSpaces x = new FibredSpaces();
                    Model m = new Model();
                    int shift = random.nextInt(199) - 99;
                    Due.is("fills", x.fills(0, 1, shift), m.fills(0, 1, shift));
                    Due.is("fills", x.fills(0, a, b), m.fills(0, a, b));
                    compareLens(x, m);
                    int c = 2 + random.nextInt(29);
                    Due.is("fills", x.fills(0, c, c + 1), m.fills(0, c, c + 1));
                    compareLens(x, m);
                    Due.is("turnsOn", x.turnsOn(0, 7), m.turnsOn(0, 7));
                    compareLens(x, m);
                }
            }
        }
    }

    private static void compareLens(FibredSpaces x, Model m) {
        Due.is("P", x.lens(0, 0), m.lens(0, 0));
        Due.is("P and the order", x.lens(0, 0), x.torsion(0, -1));
        Due.is("Q", x.lens(0, 1), m.lens(0, 1));
        Due.is("nothing else", x.lens(0, 2), FibredSpaces.BAD);
    }
}
