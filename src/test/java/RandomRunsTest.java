import java.util.Random;

/** Long runs of random calls, each answered by the class and by the model of the document. */
public final class RandomRunsTest {
    private static final String[] TEXTS = {
        "o 0; f 2 1; f 3 -1;", "n1;", "n 2; f 4 -3; f 6 5;", "o4;", "n4;f30 7;", "f 5 2;f5 2;f 5 -4;",
        "o1;f1 99;f1 99;f2 1;", "n3;f2 1;f2 1;f2 1;", "f1-99;f1-99;f1-99;", "o2; f 29 28;", "o 3;f1 12;",
        "f2 1;f4 1;f8 3;f16 5;f12 7;f6 1;", "f 9 2", "x", ";", "n0;", "f 2 1; n1;", "f2 1;f2 -99;", "o1;f9-8;f27 5;"};

    /** What an object answers behind its 512th call is free, so no run goes on then. */
    private static final int MOST_CALLS = 512;
    private static final int CALLS_OF_A_STEP = 100;
    private static final int CALLS_OF_ALL = 330;

    public static void main(String[] args) {
        for (int seed = 1; seed <= 2400; seed++) {
            run(seed, seed % 2 == 0 ? MOST_CALLS : MOST_CALLS - CALLS_OF_ALL);
        }
        Due.end();
    }

    /** A shorter run leaves calls to compare all spaces at its end. */
    private static void run(int seed, int most) {
        Random random = new Random(seed);
        FibredSpaces x = new FibredSpaces();
        Model m = new Model();
        int calls = 0;
        while (calls + CALLS_OF_A_STEP <= most) {
            String where = "run " + seed + ", call " + calls;
            calls += act(where, random, x, m);
            calls += ask(where, random, x, m);
            if (random.nextInt(4) == 0) {
                calls += compareSpace(where, pick(random, 0, 5), x, m);
            }
            if (random.nextInt(4) == 0) {
                calls += compareCounts(where, x, m);
            }
        }
        for (int i = -1; i <= 6 && calls + CALLS_OF_ALL <= MOST_CALLS; i++) {
            compareSpace("run " + seed + " at its end", i, x, m);
        }
    }

    /** Mostly a number of the range, sometimes one beside it. */
    private static int pick(Random random, int least, int most) {
        return random.nextInt(25) == 0
                ? (random.nextBoolean() ? least - 1 - random.nextInt(2) : most + 1 + random.nextInt(2))
                : least + random.nextInt(most - least + 1);
    }

    private static int act(String where, Random r, FibredSpaces x, Model m) {
        int i = pick(r, 0, 5);
        int j = pick(r, 0, 5);
        int k = pick(r, 0, 5);
        int a = r.nextInt(4) == 0 ? 1 : pick(r, 1, 30);
        int b = pick(r, -99, 99);
        int t = pick(r, 2, 9);
        switch (r.nextInt(16)) {
            case 0: case 1:
                return told(where, r, x, m, i);
            case 2:
                Due.is(where + " mirrors " + i, x.mirrors(i), m.mirrors(i));
                return 1;
            case 3: case 4:
                Due.is(where + " joins " + i + " " + j + " " + k, x.joins(i, j, k), m.joins(i, j, k));
                return 1;
            case 5: case 6: case 7:
                Due.is(where + " fills " + i + " " + a + " " + b, x.fills(i, a, b), m.fills(i, a, b));
                return 1;
            case 8: case 9:
                int f = pick(r, 0, 2);
                Due.is(where + " drills " + i + " " + f, x.drills(i, f), m.drills(i, f));
                return 1;
            case 10:
                Due.is(where + " turnsOn " + i + " " + t, x.turnsOn(i, t), m.turnsOn(i, t));
                return 1;
            case 11:
                Due.is(where + " unwraps " + i + " " + t, x.unwraps(i, t), m.unwraps(i, t));
                return 1;
            case 12:
                int d = pick(r, 2, 3);
                Due.is(where + " unrolls " + i + " " + d, x.unrolls(i, d), m.unrolls(i, d));
                return 1;
            case 13:
                Due.is(where + " undo", x.undo(), m.undo());
                return 1;
            case 14:
                int image = pick(r, 0, 1);
                Due.is(where + " keep " + image, x.keep(image), m.keep(image));
                return 1;
            default:
                if (r.nextInt(3) > 0) {
                    return 0;
                }
                int from = pick(r, 0, 1);
                Due.is(where + " back " + from, x.back(from), m.back(from));
                return 1;
        }
    }

    private static int told(String where, Random r, FibredSpaces x, Model m, int i) {
        String text = TEXTS[r.nextInt(TEXTS.length)];
        for (int k = 0; k < text.length(); k++) {
            Due.is(where + " type", x.type(text.charAt(k)), m.type(text.charAt(k)));
        }
        Due.is(where + " tells " + i + " " + m.text, x.tells(i), m.tells(i));
        if (r.nextInt(3) > 0) {
            Due.is(where + " clear", x.clear(), m.clear());
        }
        return text.length() + 2;
    }

    private static int ask(String where, Random r, FibredSpaces x, Model m) {
        int i = pick(r, 0, 5);
        int j = pick(r, 0, 5);
        int n = pick(r, 2, 12);
        int part = pick(r, 0, 1);
        Due.is(where + " euler", x.euler(i, part), m.euler(i, part));
        Due.is(where + " over", x.over(i, part), m.over(i, part));
        Due.is(where + " like", x.like(i, j), m.like(i, j));
        Due.is(where + " torsion", x.torsion(i, part), m.torsion(i, part));
        Due.is(where + " maps " + i + " " + n, x.maps(i, n), m.maps(i, n));
        Due.is(where + " threes " + i, x.threes(i), m.threes(i));
        Due.is(where + " lens " + i + " " + part, x.lens(i, part), m.lens(i, part));
        long v = m.maps(j, n);
        if (r.nextInt(3) == 0) {
            Due.is(where + " sees " + n + " " + v, x.sees(n, v), m.sees(n, v));
        }
        if (r.nextInt(6) == 0) {
            Due.is(where + " forget", x.forget(), m.forget());
        }
        return 10;
    }

    private static int compareSpace(String where, int i, FibredSpaces x, Model m) {
        int calls = 0;
        for (int what = -1; what <= 7; what++) {
            Due.is(where + " space " + i + " " + what, x.space(i, what), m.space(i, what));
            calls++;
        }
        for (int k = -2; k <= 7; k++) {
            Due.is(where + " torsion " + i + " " + k, x.torsion(i, k), m.torsion(i, k));
            Due.is(where + " fibre " + i + " " + k, x.fibre(i, k, 0), m.fibre(i, k, 0));
            Due.is(where + " fibre " + i + " " + k, x.fibre(i, k, 1), m.fibre(i, k, 1));
            calls += 3;
        }
        return calls;
    }

    private static int compareCounts(String where, FibredSpaces x, Model m) {
        Due.is(where + " which", x.which(), m.which());
        Due.is(where + " ask", x.ask(), m.ask());
        for (int what = -1; what <= 4; what++) {
            Due.is(where + " count " + what, x.count(what), m.count(what));
        }
        return 8;
    }
}
