/**
 * Promises 13 to 21: a method for each sentence that names a boundary of a call that only asks, with
 * the input just inside and the one just outside.
 */
public final class BoundaryAnswersTest {
    private static final int BAD = FibredSpaces.BAD;
    private static final int STATE = FibredSpaces.STATE;
    private static final int NONE = FibredSpaces.NONE;
    private static final long NO = FibredSpaces.NO;
    /** Neighbours of 0 and 1, and numbers that would wrap around. */
    private static final int[] NOT_0_OR_1 = {-1, 2, Integer.MIN_VALUE, Integer.MAX_VALUE};
    /** The A have no divisor in common, so that the denominators are as long as they come. */
    private static final String LONG = "f17 16;f19 18;f23 22;f25 24;f27 26;f29 28;";
    private static final String SIX_HALVES = "f2 1;f2 1;f2 1;f2 1;f2 1;f2 1;";

    public static void main(String[] args) {
        spacesAndFibres();
        fractions();
        comparing();
        groups();
        lenses();
        Due.end();
    }

    private static void spacesAndFibres() {
        promise13Spaces();
        promise13Properties();
        promise13EndsOfTheBase();
        promise13EndsOfTheShift();
        promise13NumbersOfFibres();
        promise13Rank();
        promise13SizeOfTheTorsion();
        promise13CharacteristicOfTheGeometry();
        promise13EulerNumberOfTheGeometry();
        promise14Spaces();
        promise14Fibres();
        promise14Numbers();
    }

    private static void fractions() {
        promise15SpacesAndParts();
        promise15LowestTerms();
        promise15Zero();
        promise15LongFractions();
        promise16SpacesAndParts();
        promise16LowestTerms();
        promise16Zero();
        promise16Ends();
    }

    private static void comparing() {
        promise17Spaces();
        promise17Alike();
        promise17MirrorImages();
        promise17MirrorImageOutOfRange();
    }

    private static void groups() {
        promise18Spaces();
        promise18Indices();
        promise18Order();
        promise18BadBeforeNone();
        promise18Longest();
        promise19Spaces();
        promise19Orders();
        promise19LeastAndGreatest();
        promise20Spaces();
        promise20LeastAndGreatest();
    }

    private static void lenses() {
        promise21SpacesAndParameters();
        promise21NotDefined();
        promise21BadBeforeState();
        promise21SmallP();
        promise21FewerFibres();
        promise21EndsOfTheShift();
    }

    /** Promise 13: NO if there is no such space. */
    private static void promise13Spaces() {
        FibredSpaces x = Scene.with("n1;", "n1;", "n1;", "n1;", "n1;", "n1;");
        for (int what = 0; what <= 6; what++) {
            for (int i : Scene.NO_SPACES) {
                Due.is("space(" + i + "," + what + ")", x.space(i, what), NO);
            }
        }
        for (int i = 0; i < 6; i++) {
            Due.is("space(" + i + ",0)", x.space(i, 0), 1);
        }
    }

    /** Promise 13: NO if what is not 0 to 6. */
    private static void promise13Properties() {
        FibredSpaces x = Scene.with("n3;f2 1;f1-9;");
        long[] due = {1, 3, -9, 1, 2, 1, 5};
        for (int what = 0; what <= 6; what++) {
            Due.is("space(0," + what + ")", x.space(0, what), due[what]);
        }
        for (int what : new int[] {-1, 7, Integer.MIN_VALUE, Integer.MAX_VALUE}) {
            Due.is("space(0," + what + ")", x.space(0, what), NO);
            Due.is("space(6," + what + ")", x.space(6, what), NO);
        }
    }

    /** Promise 13: kind 0 with genus 0 to 4, kind 1 with genus 1 to 4. */
    private static void promise13EndsOfTheBase() {
        FibredSpaces x = Scene.with("o0;", "o4;", "n1;", "n4;");
        int[][] due = {{0, 0}, {0, 4}, {1, 1}, {1, 4}};
        for (int i = 0; i < 4; i++) {
            Due.is("kind of " + i, x.space(i, 0), due[i][0]);
            Due.is("genus of " + i, x.space(i, 1), due[i][1]);
        }
    }

    /** Promise 13: a shift from -999 to 999. */
    private static void promise13EndsOfTheShift() {
        Due.is("greatest", Scene.shifted(999, "").space(0, 2), 999);
        Due.is("least", Scene.shifted(-999, "").space(0, 2), -999);
    }

    /** Promise 13: at most 6 fibres, perhaps none. */
    private static void promise13NumbersOfFibres() {
        FibredSpaces x = Scene.with("", SIX_HALVES);
        Due.is("none", x.space(0, 3), 0);
        Due.is("six", x.space(1, 3), 6);
    }

    /** Promise 13: the rank, which hangs on whether the Euler number is 0 for kind 0 only. */
    private static void promise13Rank() {
        FibredSpaces x = Scene.with("", "f1 1;", "o4;", "o4;f1-1;", "n1;", "n4;f1 5;");
        int[] due = {1, 0, 9, 8, 0, 3};
        for (int i = 0; i < 6; i++) {
            Due.is("rank of " + i, x.space(i, 4), due[i]);
        }
        FibredSpaces y = Scene.with("f2 1;f3 1;f6 1;f1-1;", "f2 1;f3 1;f7 1;f1-1;", "n1;f2 1;f2-1;", "n1;f2 1;f2 1;");
        int[] dueOfFibres = {1, 0, 0, 0};
        for (int i = 0; i < 4; i++) {
            Due.is("rank with fibres, " + i, y.space(i, 4), dueOfFibres[i]);
        }
    }

    /** Promise 13: how many numbers the torsion has: none, or up to five and six with six fibres. */
    private static void promise13SizeOfTheTorsion() {
        FibredSpaces x = Scene.with("", "f1 1;", "f1 2;", SIX_HALVES, SIX_HALVES + "f1-3;", "n1;" + SIX_HALVES);
        int[] due = {0, 0, 1, 5, 4, 6};
        for (int i = 0; i < 6; i++) {
            Due.is("torsion of " + i, x.space(i, 5), due[i]);
        }
    }

    private static void geometry(String text, int due) {
        Due.is("geometry of " + text, Scene.with(text).space(0, 6), due);
    }

    /** Promise 13: a characteristic greater than, equal to or less than 0, by as little as it can be. */
    private static void promise13CharacteristicOfTheGeometry() {
        geometry("", 0);
        geometry("n1;", 0);
        geometry("o1;", 1);
        geometry("n2;", 1);
        geometry("o2;", 2);
        geometry("n3;", 2);
        geometry("f2 1;f2-1;", 0);
        geometry("n1;f2 1;f2-1;", 1);
        geometry("f2 1;f2 1;f2-1;f2-1;", 1);
        geometry("f3 1;f3 1;f3-2;", 1);
        geometry("f2 1;f4 1;f4-3;", 1);
        geometry("o1;f2 1;f2-1;", 2);
        geometry("n2;f30 1;f30-1;", 2);
        geometry("f2 1;f3 1;f5 1;", 3);
        geometry("f2 1;f2 1;f30 1;", 3);
        geometry("n1;f30 1;", 3);
        geometry("f2 1;f3 1;f6 1;", 4);
        geometry("o1;f1 1;", 4);
        geometry("f2 1;f3 1;f7 1;", 5);
        geometry("n2;f2 1;", 5);
    }

    /** Promise 13: an Euler number that is 0, or that is not by as little as it can be. */
    private static void promise13EulerNumberOfTheGeometry() {
        geometry("f2 1;f3 1;f6-5;", 1);
        geometry("f2 1;f3 1;f6 1;f1-1;", 1);
        geometry("f2 1;f3-1;", 3);
        geometry("f2 1;f3 1;f7 1;f1-1;", 5);
        geometry("f2 1;f3 1;f5-4;", 3);
        geometry("f1 1;", 3);
        geometry("f1-1;", 3);
        geometry("o2;f29 1;f30-1;", 5);
        geometry("o2;f30 1;f30-1;", 2);
    }

    /** Promise 14: BAD if there is no such space. */
    private static void promise14Spaces() {
        FibredSpaces x = new FibredSpaces();
        x.fills(0, 3, 2);
        x.fills(5, 7, 4);
        Due.is("space 0", x.fibre(0, 0, 0), 3);
        Due.is("space 5", x.fibre(5, 0, 1), 4);
        for (int i : Scene.NO_SPACES) {
            Due.is("fibre(" + i + ",0,0)", x.fibre(i, 0, 0), BAD);
            Due.is("fibre(" + i + ",0,1)", x.fibre(i, 0, 1), BAD);
        }
    }

    /** Promise 14: BAD if there is no such fibre. */
    private static void promise14Fibres() {
        FibredSpaces x = Scene.with(LONG, "f2 1;");
        Due.is("the first of six", x.fibre(0, 0, 0), 17);
        Due.is("the last of six", x.fibre(0, 5, 0), 29);
        for (int k : new int[] {-1, 6, Integer.MIN_VALUE, Integer.MAX_VALUE}) {
            Due.is("fibre(0," + k + ",0)", x.fibre(0, k, 0), BAD);
        }
        Due.is("the only one", x.fibre(1, 0, 0), 2);
        Due.is("behind the only one", x.fibre(1, 1, 0), BAD);
        Due.is("none", x.fibre(2, 0, 0), BAD);
        x.drills(1, 0);
        Due.is("the only one is gone", x.fibre(1, 0, 0), BAD);
    }

    /** Promise 14: BAD if what is not 0 or 1; A is 2 to 30, B is 1 to A - 1. */
    private static void promise14Numbers() {
        FibredSpaces x = Scene.with("f30 29;f2 1;");
        Due.is("least A", x.fibre(0, 0, 0), 2);
        Due.is("least B", x.fibre(0, 0, 1), 1);
        Due.is("greatest A", x.fibre(0, 1, 0), 30);
        Due.is("greatest B", x.fibre(0, 1, 1), 29);
        for (int what : NOT_0_OR_1) {
            Due.is("fibre(0,0," + what + ")", x.fibre(0, 0, what), BAD);
        }
    }

    private static void eulerOf(String what, FibredSpaces x, long top, long bottom) {
        Due.is("Euler number, numerator, " + what, x.euler(0, 0), top);
        Due.is("Euler number, denominator, " + what, x.euler(0, 1), bottom);
    }

    private static void overOf(String what, FibredSpaces x, long top, long bottom) {
        Due.is("characteristic, numerator, " + what, x.over(0, 0), top);
        Due.is("characteristic, denominator, " + what, x.over(0, 1), bottom);
    }

    /** Promise 15: NO if there is no such space or part is not 0 or 1. */
    private static void promise15SpacesAndParts() {
        FibredSpaces x = new FibredSpaces();
        x.fills(0, 1, 1);
        x.fills(5, 1, 2);
        for (int i : Scene.NO_SPACES) {
            Due.is("euler(" + i + ",0)", x.euler(i, 0), NO);
            Due.is("euler(" + i + ",1)", x.euler(i, 1), NO);
        }
        for (int part : NOT_0_OR_1) {
            Due.is("euler(0," + part + ")", x.euler(0, part), NO);
        }
        Due.is("-1 is an answer", x.euler(0, 0), -1);
        Due.is("space 5", x.euler(5, 0), -2);
    }

    /** Promise 15: lowest terms with a positive denominator. */
    private static void promise15LowestTerms() {
        eulerOf("-1/2", Scene.with("f2 1;"), -1, 2);
        eulerOf("1/2", Scene.with("f2-1;"), 1, 2);
        eulerOf("-1", Scene.with("f2 1;f2 1;"), -1, 1);
        eulerOf("-3/2", Scene.with("f4 3;f4 3;"), -3, 2);
        eulerOf("1/42", Scene.with("f2 1;f3 1;f7 1;f1-1;"), 1, 42);
        eulerOf("-1/5", Scene.with("f30 1;".repeat(6)), -1, 5);
    }

    /** Promise 15: 0 is 0 / 1. */
    private static void promise15Zero() {
        eulerOf("no fibres", new FibredSpaces(), 0, 1);
        eulerOf("fibres", Scene.with("f29 1;f29-1;"), 0, 1);
        eulerOf("fibres and a shift", Scene.with("n4;f2 1;f3 1;f6 1;f1-1;"), 0, 1);
    }

    /** Promise 15: the ends of the shift with long denominators, above what an int holds. */
    private static void promise15LongFractions() {
        eulerOf("shift 999", Scene.shifted(999, ""), -999, 1);
        eulerOf("shift -999", Scene.shifted(-999, ""), 999, 1);
        eulerOf("999 and more", Scene.shifted(999, LONG), -146111040043L, 145422675L);
        eulerOf("-999 and more", Scene.shifted(-999, LONG), 144443464607L, 145422675L);
    }

    /** Promise 16: NO if there is no such space or part is not 0 or 1. */
    private static void promise16SpacesAndParts() {
        FibredSpaces x = Scene.with("n3;", "", "", "", "", "o2;");
        for (int i : Scene.NO_SPACES) {
            Due.is("over(" + i + ",0)", x.over(i, 0), NO);
            Due.is("over(" + i + ",1)", x.over(i, 1), NO);
        }
        for (int part : NOT_0_OR_1) {
            Due.is("over(0," + part + ")", x.over(0, part), NO);
        }
        Due.is("-1 is an answer", x.over(0, 0), -1);
        Due.is("space 5", x.over(5, 0), -2);
    }

    /** Promise 16: lowest terms with a positive denominator. */
    private static void promise16LowestTerms() {
        overOf("3/2", Scene.with("f2 1;"), 3, 2);
        overOf("1", Scene.with("f2 1;f2 1;"), 1, 1);
        overOf("1/30", Scene.with("f2 1;f3 1;f5 1;"), 1, 30);
        overOf("-1/42", Scene.with("f2 1;f3 1;f7 1;"), -1, 42);
        overOf("-1/2", Scene.with("n2;f2 1;"), -1, 2);
    }

    /** Promise 16: 0 is 0 / 1. */
    private static void promise16Zero() {
        overOf("o1", Scene.with("o1;"), 0, 1);
        overOf("n2", Scene.with("n2;"), 0, 1);
        overOf("2 3 6", Scene.with("f2 1;f3 1;f6 1;"), 0, 1);
        overOf("n1 2 2", Scene.with("n1;f2 1;f2 1;"), 0, 1);
    }

    /** Promise 16: the least and the greatest genus without fibres and with six. */
    private static void promise16Ends() {
        overOf("o0", Scene.with("o0;"), 2, 1);
        overOf("n1", Scene.with("n1;"), 1, 1);
        overOf("o4", Scene.with("o4;"), -6, 1);
        overOf("n4", Scene.with("n4;"), -2, 1);
        overOf("o4 and 30", Scene.with("o4;" + "f30 1;".repeat(6)), -59, 5);
        overOf("o0 and more", Scene.with(LONG), -542942368L, 145422675L);
        overOf("o4 and more", Scene.with("o4;" + LONG), -1706323768L, 145422675L);
        overOf("n4 and more", Scene.with("n4;" + LONG), -1124633068L, 145422675L);
    }

    /** Promise 17: BAD if there is no such space, in both places. */
    private static void promise17Spaces() {
        FibredSpaces x = Scene.with("f1 1;", "", "", "", "", "f1-1;");
        for (int i : Scene.NO_SPACES) {
            Due.is("like(" + i + ",0)", x.like(i, 0), BAD);
            Due.is("like(0," + i + ")", x.like(0, i), BAD);
            Due.is("like(" + i + "," + i + ")", x.like(i, i), BAD);
        }
        Due.is("like(0,5)", x.like(0, 5), 2);
        Due.is("like(5,0)", x.like(5, 0), 2);
        Due.is("like(5,5)", x.like(5, 5), 1);
    }

    private static void like(String one, String other, int due) {
        FibredSpaces x = Scene.with(one, other);
        Due.is(one + " like " + other, x.like(0, 1), due);
        Due.is(other + " like " + one, x.like(1, 0), due);
    }

    /** Promise 17: alike if bases, shifts and fibres are the same; one number off is not alike. */
    private static void promise17Alike() {
        like("n2;f3 1;f5 2;f1 4;", "n2;f5 2;f3 1;f1 4;", 1);
        like("n2;f3 1;f5 2;f1 4;", "o2;f3 1;f5 2;f1 4;", 0);
        like("n2;f3 1;f5 2;f1 4;", "n3;f3 1;f5 2;f1 4;", 0);
        like("n2;f3 1;f5 2;f1 4;", "n2;f3 1;f5 2;f1 5;", 0);
        like("n2;f3 1;f5 2;f1 4;", "n2;f4 1;f5 2;f1 4;", 0);
        like("n2;f3 1;f5 2;f1 4;", "n2;f3 1;f5 1;f1 4;", 0);
        like("n2;f3 1;f5 2;f1 4;", "n2;f3 1;f1 4;", 0);
        like("n2;f3 1;f5 2;f1 4;", "n2;f3 1;f5 2;f5 2;f1 4;", 0);
    }

    /** Promise 17: plus 2 if the mirror image is alike; both together are 3. */
    private static void promise17MirrorImages() {
        like("", "", 3);
        like("f2 1;f2-1;", "f2 1;f2-1;", 3);
        like("f1 1;", "f1-1;", 2);
        like("f3 1;f5 2;f1 4;", "f3-1;f5-2;f1-4;", 2);
        like("f3 1;f5 2;f1 4;", "f3-1;f5-2;f1-5;", 0);
        like("f3 1;f5 2;f1 4;", "f3-1;f5-1;f1-4;", 0);
        like("o1;f3 1;", "n1;f3-1;", 0);
        like("o1;f3 1;", "o2;f3-1;", 0);
    }

    /** Promise 17: whether the shift of the mirror image is in range or not. */
    private static void promise17MirrorImageOutOfRange() {
        FibredSpaces x = Scene.shifted(999, "f2 1;");
        Due.is("mirror image at -1000", x.like(0, 0), 1);
        Due.is("mirror image at -1000", x.like(0, 1), 0);
        Due.stands("like changes nothing", x, 0, 0, 0, 999, 2, 1);
        FibredSpaces y = Scene.shifted(998, "f2 1;");
        y.joins(1, 0, 2);
        y.mirrors(1);
        Due.is("mirror image at -999", y.like(0, 1), 2);
        Due.is("and back", y.like(1, 0), 2);
        y.drills(1, 0);
        Due.is("-999 without fibres", y.like(0, 1), 0);
        FibredSpaces z = Scene.shifted(999, "");
        z.joins(1, 0, 2);
        z.mirrors(1);
        Due.is("999 and -999", z.like(0, 1), 2);
    }

    /** Promise 18: BAD if there is no such space. */
    private static void promise18Spaces() {
        FibredSpaces x = Scene.with("f1 7;", "", "", "", "", "f1 5;");
        for (int i : Scene.NO_SPACES) {
            Due.is("torsion(" + i + ",-1)", x.torsion(i, -1), BAD);
            Due.is("torsion(" + i + ",0)", x.torsion(i, 0), BAD);
        }
        Due.is("space 0", x.torsion(0, 0), 7);
        Due.is("space 5", x.torsion(5, 0), 5);
    }

    /** Promise 18: NONE if there is no such index; BAD if k is less than -1. */
    private static void promise18Indices() {
        FibredSpaces x = Scene.with("f2 1;f2 1;f2-1;", "f1 1;");
        Due.is("first", x.torsion(0, 0), 2);
        Due.is("last", x.torsion(0, 1), 2);
        Due.is("behind the last", x.torsion(0, 2), NONE);
        Due.is("far behind", x.torsion(0, Integer.MAX_VALUE), NONE);
        Due.is("no torsion", x.torsion(1, 0), NONE);
        Due.is("-1", x.torsion(0, -1), 4);
        Due.is("-2", x.torsion(0, -2), BAD);
        Due.is("least", x.torsion(0, Integer.MIN_VALUE), BAD);
    }

    /** Promise 18: the order is the product of all D (1 if there are none) if the rank is 0, else 0. */
    private static void promise18Order() {
        FibredSpaces x = Scene.with("f1 1;", "", "f2 1;f3 1;f6 1;f1-1;", "o1;f1 7;", "n1;", "n2;");
        long[] due = {1, 0, 0, 0, 4, 0};
        for (int i = 0; i < 6; i++) {
            Due.is("order of " + i, x.torsion(i, -1), due[i]);
        }
        Due.is("rank 2 and torsion", x.torsion(3, 0), 7);
    }

    /** Promise 18, and the order of the errors: NONE is returned only if no error applies. */
    private static void promise18BadBeforeNone() {
        FibredSpaces x = new FibredSpaces();
        Due.is("index 9 of space 6", x.torsion(6, 9), BAD);
        Due.is("index 9 of space -1", x.torsion(-1, 9), BAD);
        Due.is("index 9 of space 5", x.torsion(5, 9), NONE);
        Due.is("index -2 of a space without torsion", x.torsion(5, -2), BAD);
    }

    /** Promise 18: six fibres and the ends of the shift, above what an int holds. */
    private static void promise18Longest() {
        FibredSpaces x = Scene.shifted(999, LONG);
        Due.is("order", x.torsion(0, -1), 146111040043L);
        Due.is("all in one", x.torsion(0, 0), x.torsion(0, -1));
        Due.is("no second", x.torsion(0, 1), NONE);
        FibredSpaces y = Scene.shifted(-999, "n1;" + "f30 29;".repeat(6));
        Due.is("order of kind 1", y.torsion(0, -1), 4L * 729000000);
        Due.is("sixth of kind 1", y.torsion(0, 5) > 1 ? 1 : 0, 1);
        Due.is("no seventh", y.torsion(0, 6), NONE);
    }

    /** Promise 19: BAD if there is no such space. */
    private static void promise19Spaces() {
        FibredSpaces x = Scene.with("f1 7;", "", "", "", "", "f1 5;");
        for (int i : Scene.NO_SPACES) {
            Due.is("maps(" + i + ",2)", x.maps(i, 2), BAD);
        }
        Due.is("space 0", x.maps(0, 7), 7);
        Due.is("space 5", x.maps(5, 5), 5);
    }

    /** Promise 19: the order, 2 to 12. */
    private static void promise19Orders() {
        FibredSpaces x = new FibredSpaces();
        for (int m : new int[] {1, 13, 0, -1, -2, Integer.MIN_VALUE, Integer.MAX_VALUE}) {
            Due.is("maps(0," + m + ")", x.maps(0, m), BAD);
        }
        for (int m = 2; m <= 12; m++) {
            Due.is("maps(0," + m + ")", x.maps(0, m), m);
        }
    }

    /** Promise 19: one way at least, and numbers above what an int holds. */
    private static void promise19LeastAndGreatest() {
        FibredSpaces x = Scene.with("f1 1;", "o4;", "o4;" + "f12 1;".repeat(5) + "f12-5;", "n4;" + "f12 1;".repeat(6));
        Due.is("one way", x.maps(0, 2), 1);
        Due.is("one way", x.maps(0, 12), 1);
        Due.is("512 ways", x.maps(1, 2), 512);
        Due.is("12 to the 9", x.maps(1, 12), 5159780352L);
        Due.is("12 to the 13", x.maps(2, 12), 106993205379072L);
        // H is 0, as 12 * Q + H is; any V and five Q give the sixth Q
        Due.is("12 to the 9 of kind 1", x.maps(3, 12), 5159780352L);
    }

    /** Promise 20: BAD if there is no such space. */
    private static void promise20Spaces() {
        FibredSpaces x = Scene.with("f1 2;", "", "", "", "", "f1 3;");
        for (int i : Scene.NO_SPACES) {
            Due.is("threes(" + i + ")", x.threes(i), BAD);
        }
        Due.is("space 0", x.threes(0), 4);
        Due.is("space 5", x.threes(5), 3);
    }

    /** Promise 20: one way at least, and numbers above what an int holds. */
    private static void promise20LeastAndGreatest() {
        FibredSpaces x = Scene.with("f1 1;", "f1-1;", "", "o4;" + "f6 1;".repeat(6), "n4;" + "f6 1;".repeat(6), "n1;");
        Due.is("one way", x.threes(0), 1);
        Due.is("one way", x.threes(1), 1);
        Due.is("any H", x.threes(2), 6);
        // H is 1, as Q^6 * H is; any X, Y and five Q give the sixth Q: 6 to the 13
        Due.is("many ways", x.threes(3), 13060694016L);
        // likewise any V and five Q: 6 to the 9
        Due.is("many ways of kind 1", x.threes(4), 10077696L);
        // H = 1 has four V, an H of order 2 two, and one of order 3 the three V that turn it round
        Due.is("no fibres and genus 1", x.threes(5), 4 + 3 * 2 + 2 * 3);
    }

    /** Promise 21: BAD if there is no such space or what is not 0 or 1. */
    private static void promise21SpacesAndParameters() {
        FibredSpaces x = Scene.with("f1 7;", "", "", "", "", "f1 5;");
        for (int i : Scene.NO_SPACES) {
            Due.is("lens(" + i + ",0)", x.lens(i, 0), BAD);
            Due.is("lens(" + i + ",1)", x.lens(i, 1), BAD);
        }
        for (int what : NOT_0_OR_1) {
            Due.is("lens(0," + what + ")", x.lens(0, what), BAD);
        }
        Due.is("P of space 0", x.lens(0, 0), 7);
        Due.is("P of space 5", x.lens(5, 0), 5);
        Due.is("Q of space 5", x.lens(5, 1), 1);
    }

    /** Promise 21: defined for kind 0 with genus 0 and at most two fibres; else STATE. */
    private static void promise21NotDefined() {
        FibredSpaces x = Scene.with("f2 1;f3 1;", "f2 1;f3 1;f5 1;", "o1;", "n1;", "o4;f2 1;", SIX_HALVES);
        Due.is("two fibres, P", x.lens(0, 0), 5);
        Due.is("two fibres, Q", x.lens(0, 1), 1);
        for (int i = 1; i < 6; i++) {
            Due.is("P of " + i, x.lens(i, 0), STATE);
            Due.is("Q of " + i, x.lens(i, 1), STATE);
        }
        x.drills(1, 2);
        Due.is("the third fibre is gone", x.lens(1, 0), 5);
    }

    /** Promise 21, and the order of the errors: BAD before STATE. */
    private static void promise21BadBeforeState() {
        FibredSpaces x = Scene.with("o1;");
        Due.is("what = 2", x.lens(0, 2), BAD);
        Due.is("what = -1", x.lens(0, -1), BAD);
        Due.is("what = 1", x.lens(0, 1), STATE);
    }

    private static void lensOf(int shift, String text, long p, long q) {
        FibredSpaces x = Scene.shifted(shift, text);
        Due.is("P of " + text + " with " + shift, x.lens(0, 0), p);
        Due.is("Q of " + text + " with " + shift, x.lens(0, 1), q);
    }

    /** Promise 21: if P is 0 or 1, Q is 0; for P = 2 it is 1. */
    private static void promise21SmallP() {
        lensOf(0, "", 0, 0);
        lensOf(-1, "f2 1;f2 1;", 0, 0);
        lensOf(-1, "f30 1;f30 29;", 0, 0);
        lensOf(1, "", 1, 0);
        lensOf(-1, "", 1, 0);
        lensOf(0, "f30 1;", 1, 0);
        lensOf(-1, "f2 1;f3 1;", 1, 0);
        lensOf(2, "", 2, 1);
        lensOf(-2, "", 2, 1);
        lensOf(0, "f3 2;", 2, 1);
        lensOf(3, "", 3, 1);
    }

    /** Promise 21: (1, shift) if there are no fibres, (1, 0) if there are fewer than two. */
    private static void promise21FewerFibres() {
        lensOf(5, "", 5, 1);
        lensOf(5, "f3 1;", 16, 3);
        lensOf(5, "f3 1;f5 2;", 86, 27);
        lensOf(0, "f5 1;f5 2;", 15, 2);
        FibredSpaces x = Scene.with("f3 1;f5 2;f1 5;");
        x.drills(0, 1);
        Due.is("P without fibre 1", x.lens(0, 0), 16);
        Due.is("Q without fibre 1", x.lens(0, 1), 3);
        x.drills(0, 0);
        Due.is("P without fibres", x.lens(0, 0), 5);
        Due.is("Q without fibres", x.lens(0, 1), 1);
    }

    /** Promise 21: the greatest P. */
    private static void promise21EndsOfTheShift() {
        lensOf(999, "", 999, 1);
        lensOf(-999, "", 999, 1);
        lensOf(999, "f30 29;", 29999, 30);
        lensOf(-999, "f30 1;", 29969, 30);
        lensOf(999, "f29 28;f30 29;", 870811, 29028);
        lensOf(-999, "f29 28;f30 29;", 867449, 28914);
    }
}
