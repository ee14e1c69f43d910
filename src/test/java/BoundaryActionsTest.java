/**
 * Promises 5 to 12: a method for each sentence that names a boundary of an action or of undo(), with
 * the input just inside and the one just outside, and what stands after a refused call.
 */
public final class BoundaryActionsTest {
    private static final int BAD = FibredSpaces.BAD;
    private static final int STATE = FibredSpaces.STATE;
    private static final int FULL = FibredSpaces.FULL;

    public static void main(String[] args) {
        mirrorsAndJoins();
        fillsAndDrills();
        turnsAndCoverings();
        undoing();
        Due.end();
    }

    private static void mirrorsAndJoins() {
        promise5Spaces();
        promise5Alike();
        promise5ShiftTooSmall();
        promise5GreatestShift();
        promise6Spaces();
        promise6SameSpace();
        promise6Kinds();
        promise6GenusAbove4();
        promise6SevenFibres();
        promise6NoFibres();
        promise6Shift();
    }

    private static void fillsAndDrills() {
        promise7Spaces();
        promise7RangeOfA();
        promise7RangeOfB();
        promise7Coprime();
        promise7SevenFibres();
        promise7ShiftTooLarge();
        promise7ShiftTooSmall();
        promise7BadBeforeFull();
        promise8Spaces();
        promise8Fibres();
        promise8NoFibres();
        promise8ShiftStays();
    }

    private static void turnsAndCoverings() {
        promise9Spaces();
        promise9Orders();
        promise9NotCoprime();
        promise9ShiftTooLarge();
        promise9ShiftTooSmall();
        promise9OrderOfErrors();
        promise10Spaces();
        promise10Orders();
        promise10NotCoprime();
        promise10NotDivisible();
        promise10EndsOfTheShift();
        promise10OrderOfErrors();
        promise11Spaces();
        promise11Sheets();
        promise11GenusTooSmall();
        promise11GenusAbove4();
        promise11SevenFibres();
        promise11Shift();
        promise11OrderOfErrors();
    }

    private static void undoing() {
        promise12Nothing();
        promise12LatestSix();
        promise12AlsoIfNothingWasChanged();
        promise12RefusedCallsAreNoActions();
        promise12IsNoAction();
        promise12RoundTheRing();
        promise12TheShelfAlone();
    }

    /**
     * A refused action: its error, the shelf that stays, nothing to undo. The shelf before stands ahead of
     * the answer since Java takes the arguments in their order.
     */
    private static void refused(String what, FibredSpaces x, String before, long got, int error) {
        Due.is(what, got, error);
        Due.same(what, Scene.shelf(x), before);
        Due.is(what + ": actions", x.count(3), 0);
    }

    /** Promise 5: BAD if there is no such space. */
    private static void promise5Spaces() {
        for (int i = 0; i < 6; i++) {
            FibredSpaces x = new FibredSpaces();
            x.fills(i, 1, 4);
            Due.is("mirrors(" + i + ")", x.mirrors(i), 0);
            Due.stands("mirrors(" + i + ")", x, i, 0, 0, -4);
        }
        for (int i : Scene.NO_SPACES) {
            FibredSpaces x = new FibredSpaces();
            refused("mirrors(" + i + ")", x, Scene.shelf(new FibredSpaces()), x.mirrors(i), BAD);
        }
    }

    /** Promise 5: returns 1 if it is alike what it was, else 0. */
    private static void promise5Alike() {
        FibredSpaces x = Scene.with("", "f1 1;", "f2 1;", "f2 1;f2-1;", "f3 1;f3-1;", "f3 1;f3 1;f1-1;");
        int[] due = {1, 0, 0, 1, 1, 0};
        for (int i = 0; i < 6; i++) {
            Due.is("mirrors(" + i + ")", x.mirrors(i), due[i]);
        }
        Due.stands("shift 1", x, 1, 0, 0, -1);
        Due.stands("one half", x, 2, 0, 0, -1, 2, 1);
        Due.stands("two halves", x, 3, 0, 0, -1, 2, 1, 2, 1);
        Due.stands("a third there and back", x, 4, 0, 0, -1, 3, 1, 3, 2);
        Due.stands("two thirds", x, 5, 0, 0, -1, 3, 2, 3, 2);
    }

    /** Promise 5: FULL if the new space would have a shift below -999; each fibre takes one more. */
    private static void promise5ShiftTooSmall() {
        String six = "f2 1;f2 1;f2 1;f2 1;f2 1;f2 1;";
        FibredSpaces x = Scene.shifted(999, "");
        Due.is("999 without fibres", x.mirrors(0), 0);
        Due.stands("999 without fibres", x, 0, 0, 0, -999);
        x = Scene.shifted(998, "f2 1;");
        Due.is("998 with a fibre", x.mirrors(0), 0);
        Due.stands("998 with a fibre", x, 0, 0, 0, -999, 2, 1);
        x = Scene.shifted(999, "f2 1;");
        refused("999 with a fibre", x, Scene.shelf(x), x.mirrors(0), FULL);
        x = Scene.shifted(993, six);
        Due.is("993 with six fibres", x.mirrors(0), 0);
        Due.is("993 with six fibres", x.space(0, 2), -999);
        x = Scene.shifted(994, six);
        refused("994 with six fibres", x, Scene.shelf(x), x.mirrors(0), FULL);
    }

    /** Promise 5: the least shift becomes the greatest one. */
    private static void promise5GreatestShift() {
        FibredSpaces x = Scene.shifted(-999, "");
        Due.is("-999", x.mirrors(0), 0);
        Due.stands("-999", x, 0, 0, 0, 999);
        x = Scene.shifted(-999, "f30 29;");
        Due.is("-999 with a fibre", x.mirrors(0), 0);
        Due.stands("-999 with a fibre", x, 0, 0, 0, 998, 30, 1);
    }

    /** Promise 6: BAD if there is no such space, in each of the three places. */
    private static void promise6Spaces() {
        FibredSpaces x = Scene.shifted(0, "f2 1;");
        String before = Scene.shelf(x);
        for (int i : Scene.NO_SPACES) {
            refused("joins(" + i + ",0,0)", x, before, x.joins(i, 0, 0), BAD);
            refused("joins(0," + i + ",0)", x, before, x.joins(0, i, 0), BAD);
            refused("joins(0,0," + i + ")", x, before, x.joins(0, 0, i), BAD);
        }
        Due.is("joins(5,0,5)", x.joins(5, 0, 5), 1);
        Due.is("joins(0,5,5)", x.joins(0, 5, 5), 2);
        Due.stands("joins(0,5,5)", x, 0, 0, 0, 0, 2, 1, 2, 1);
    }

    /** Promise 6: a space, perhaps the same. */
    private static void promise6SameSpace() {
        FibredSpaces x = Scene.with("n1;f3 1;f1 2;", "n1;f5 1;");
        Due.is("i and j", x.joins(0, 0, 1), 2);
        Due.stands("i and j", x, 0, 1, 2, 2, 3, 1, 5, 1);
        Due.is("i and k", x.joins(0, 1, 0), 3);
        Due.stands("i and k", x, 0, 1, 3, 2, 3, 1, 5, 1, 5, 1);
        Due.is("j and k", x.joins(0, 1, 1), 2);
        Due.stands("j and k", x, 0, 1, 2, 0, 5, 1, 5, 1);
        Due.is("all", x.joins(0, 0, 0), 4);
        Due.stands("all", x, 0, 1, 4, 0, 5, 1, 5, 1, 5, 1, 5, 1);
        Due.stands("the other", x, 1, 1, 1, 0, 5, 1);
    }

    private static void joined(String one, String other, int kind, int genus) {
        FibredSpaces x = Scene.with(one, other);
        Due.is(one + " and " + other, x.joins(2, 0, 1), 0);
        Due.stands(one + " and " + other, x, 2, kind, genus, 0);
        Due.is(other + " and " + one, x.joins(3, 1, 0), 0);
        Due.stands(other + " and " + one, x, 3, kind, genus, 0);
    }

    private static void notJoined(String one, String other) {
        FibredSpaces x = Scene.shifted(0, one, other, "n1;f7 3;");
        String before = Scene.shelf(x);
        refused(one + " and " + other, x, before, x.joins(2, 0, 1), FULL);
        refused(other + " and " + one, x, before, x.joins(2, 1, 0), FULL);
    }

    /** Promise 6: kind 0 if both are, otherwise kind 1, where a genus of kind 0 counts twice. */
    private static void promise6Kinds() {
        joined("o0;", "o0;", 0, 0);
        joined("o1;", "o2;", 0, 3);
        joined("o0;", "n1;", 1, 1);
        joined("o1;", "n1;", 1, 3);
        joined("n1;", "n1;", 1, 2);
    }

    /** Promise 6: FULL if the new space would have a genus above 4. */
    private static void promise6GenusAbove4() {
        joined("o2;", "o2;", 0, 4);
        joined("o0;", "o4;", 0, 4);
        notJoined("o2;", "o3;");
        notJoined("o1;", "o4;");
        joined("n2;", "n2;", 1, 4);
        joined("n3;", "n1;", 1, 4);
        notJoined("n2;", "n3;");
        notJoined("n4;", "n1;");
        joined("o1;", "n2;", 1, 4);
        joined("o0;", "n4;", 1, 4);
        notJoined("o1;", "n3;");
        notJoined("o2;", "n1;");
        notJoined("o4;", "n4;");
    }

    /** Promise 6: FULL if the new space would have more than 6 fibres. */
    private static void promise6SevenFibres() {
        FibredSpaces x = Scene.shifted(0, "f2 1;f3 1;f5 1;", "f2 1;f3 2;f5 2;f7 3;", "o1;f9 4;");
        String before = Scene.shelf(x);
        refused("3 and 4", x, before, x.joins(2, 0, 1), FULL);
        refused("4 and 3", x, before, x.joins(2, 1, 0), FULL);
        refused("4 and 4", x, before, x.joins(1, 1, 1), FULL);
        Due.is("3 and 3", x.joins(3, 0, 0), 6);
        Due.stands("3 and 3", x, 3, 0, 0, 0, 2, 1, 2, 1, 3, 1, 3, 1, 5, 1, 5, 1);
        Due.is("6 and 0", x.joins(4, 3, 5), 6);
        Due.is("0 and 6", x.joins(4, 5, 3), 6);
        Due.is("6 and 1", x.joins(4, 3, 2), FULL);
        Due.is("6 and 6", x.joins(4, 3, 3), FULL);
        Due.stands("after 6 and 6", x, 4, 0, 0, 0, 2, 1, 2, 1, 3, 1, 3, 1, 5, 1, 5, 1);
        Due.is("actions", x.count(3), 3);
    }

    /** Promise 6: returns the number of its fibres, which may be none. */
    private static void promise6NoFibres() {
        FibredSpaces x = Scene.with("f2 1;");
        Due.is("joins", x.joins(0, 1, 2), 0);
        Due.stands("no fibres", x, 0, 0, 0, 0);
    }

    /** Promise 6: its shift is the sum of both; FULL below -999 or above 999. */
    private static void promise6Shift() {
        FibredSpaces x = Scene.shifted(500, "f2 1;", "f1 99;", "f1 98;");
        Scene.move(x, 3, 499);
        Due.is("999", x.joins(5, 0, 3), 1);
        Due.stands("999", x, 5, 0, 0, 999, 2, 1);
        Due.is("1000", x.joins(5, 0, 0), FULL);
        Due.stands("after 1000", x, 5, 0, 0, 999, 2, 1);
        x = Scene.shifted(-500, "f2 1;");
        Scene.move(x, 3, -499);
        Due.is("-999", x.joins(5, 3, 0), 1);
        Due.stands("-999", x, 5, 0, 0, -999, 2, 1);
        Due.is("-1000", x.joins(5, 0, 0), FULL);
        Due.stands("after -1000", x, 5, 0, 0, -999, 2, 1);
    }

    /** Promise 7: BAD if there is no such space. */
    private static void promise7Spaces() {
        FibredSpaces x = new FibredSpaces();
        for (int i : Scene.NO_SPACES) {
            refused("fills(" + i + ",2,1)", x, Scene.shelf(new FibredSpaces()), x.fills(i, 2, 1), BAD);
        }
        for (int i = 0; i < 6; i++) {
            Due.is("fills(" + i + ",2,1)", x.fills(i, 2, 1), 1);
            Due.is("fibres of all", x.count(0), i + 1);
        }
    }

    private static void filled(int a, int b, int shift, int... fibres) {
        FibredSpaces x = new FibredSpaces();
        Due.is("fills(0," + a + "," + b + ")", x.fills(0, a, b), fibres.length / 2);
        Due.stands("fills(0," + a + "," + b + ")", x, 0, 0, 0, shift, fibres);
    }

    private static void notFilled(int a, int b) {
        FibredSpaces x = Scene.shifted(3, "n1;f7 3;");
        refused("fills(0," + a + "," + b + ")", x, Scene.shelf(x), x.fills(0, a, b), BAD);
    }

    /** Promise 7: A, 1 to 30. */
    private static void promise7RangeOfA() {
        notFilled(0, 1);
        notFilled(0, 0);
        filled(1, 1, 1);
        filled(2, 1, 0, 2, 1);
        filled(30, 1, 0, 30, 1);
        notFilled(31, 1);
        notFilled(-1, 1);
        notFilled(-2, 1);
        notFilled(Integer.MIN_VALUE, 1);
        notFilled(Integer.MAX_VALUE, 1);
    }

    /** Promise 7: B, -99 to 99. */
    private static void promise7RangeOfB() {
        notFilled(1, -100);
        filled(1, -99, -99);
        filled(1, 99, 99);
        notFilled(1, 100);
        notFilled(29, -100);
        filled(29, -99, -4, 29, 17);
        filled(29, 99, 3, 29, 12);
        notFilled(29, 100);
        notFilled(1, Integer.MIN_VALUE);
        notFilled(1, Integer.MAX_VALUE);
        notFilled(Integer.MIN_VALUE, Integer.MIN_VALUE);
    }

    /** Promise 7: coprime to A (0 is coprime to 1 only). */
    private static void promise7Coprime() {
        filled(1, 0, 0);
        notFilled(2, 0);
        notFilled(30, 0);
        notFilled(2, 2);
        notFilled(4, 2);
        notFilled(9, -3);
        notFilled(30, -15);
        notFilled(30, -99);
        filled(30, -97, -4, 30, 23);
        filled(30, 97, 3, 30, 7);
        filled(4, -1, -1, 4, 3);
        filled(4, 5, 1, 4, 1);
    }

    /** Promise 7: FULL if the new space would have more than 6 fibres; a pair with A = 1 is none. */
    private static void promise7SevenFibres() {
        FibredSpaces x = Scene.shifted(0, "f2 1;f2 1;f2 1;f2 1;f2 1;");
        Due.is("a sixth fibre", x.fills(0, 2, 1), 6);
        x.keep(0);
        x.back(0);
        String before = Scene.shelf(x);
        refused("a seventh fibre at the end", x, before, x.fills(0, 30, 1), FULL);
        refused("a seventh fibre", x, before, x.fills(0, 2, -1), FULL);
        Due.is("A = 1", x.fills(0, 1, 5), 6);
        Due.stands("A = 1", x, 0, 0, 0, 5, 2, 1, 2, 1, 2, 1, 2, 1, 2, 1, 2, 1);
        Due.is("drills makes room", x.drills(0, 0), 5);
        Due.is("for one", x.fills(0, 30, 1), 6);
    }

    /** Promise 7: FULL if the new space would have a shift above 999. */
    private static void promise7ShiftTooLarge() {
        FibredSpaces x = Scene.shifted(999, "");
        String before = Scene.shelf(x);
        refused("1000 by A = 1", x, before, x.fills(0, 1, 1), FULL);
        refused("1000 by a fibre", x, before, x.fills(0, 2, 3), FULL);
        refused("1098", x, before, x.fills(0, 1, 99), FULL);
        Due.is("999 by A = 1", x.fills(0, 1, 0), 0);
        Due.is("999 by a fibre", x.fills(0, 30, 29), 1);
        Due.stands("999", x, 0, 0, 0, 999, 30, 29);
        x = Scene.shifted(998, "");
        Due.is("999 by a fibre above 1", x.fills(0, 2, 3), 1);
        Due.stands("999", x, 0, 0, 0, 999, 2, 1);
    }

    /** Promise 7: FULL if the new space would have a shift below -999. */
    private static void promise7ShiftTooSmall() {
        FibredSpaces x = Scene.shifted(-999, "");
        String before = Scene.shelf(x);
        refused("-1000 by A = 1", x, before, x.fills(0, 1, -1), FULL);
        refused("-1000 by a fibre", x, before, x.fills(0, 30, -1), FULL);
        refused("-1098", x, before, x.fills(0, 1, -99), FULL);
        Due.is("-999 by a fibre", x.fills(0, 2, 1), 1);
        Due.stands("-999", x, 0, 0, 0, -999, 2, 1);
        x = Scene.shifted(-998, "");
        Due.is("-999 by a fibre below 0", x.fills(0, 30, -1), 1);
        Due.stands("-999", x, 0, 0, 0, -999, 30, 29);
    }

    /** Promise 7, and the order of the errors: BAD before FULL. */
    private static void promise7BadBeforeFull() {
        FibredSpaces x = Scene.shifted(999, "f2 1;f2 1;f2 1;f2 1;f2 1;f2 1;");
        String before = Scene.shelf(x);
        refused("full", x, before, x.fills(0, 3, 4), FULL);
        refused("A = 31", x, before, x.fills(0, 31, 1), BAD);
        refused("A = 0", x, before, x.fills(0, 0, 1), BAD);
        refused("B = 100", x, before, x.fills(0, 3, 100), BAD);
        refused("not coprime", x, before, x.fills(0, 3, 9), BAD);
        refused("no such space", x, before, x.fills(6, 3, 1), BAD);
    }

    /** Promise 8: BAD if there is no such space. */
    private static void promise8Spaces() {
        for (int i : Scene.NO_SPACES) {
            FibredSpaces x = Scene.shifted(0, "f2 1;");
            refused("drills(" + i + ",0)", x, Scene.shelf(x), x.drills(i, 0), BAD);
        }
        for (int i = 0; i < 6; i += 5) {
            FibredSpaces x = new FibredSpaces();
            x.fills(i, 2, 1);
            Due.is("drills(" + i + ",0)", x.drills(i, 0), 0);
        }
    }

    /** Promise 8: BAD if there is no such fibre. */
    private static void promise8Fibres() {
        FibredSpaces x = Scene.shifted(0, "f2 1;f3 1;f5 1;f7 1;f11 1;f13 1;");
        String before = Scene.shelf(x);
        for (int k : new int[] {-1, 6, Integer.MIN_VALUE, Integer.MAX_VALUE}) {
            refused("drills(0," + k + ")", x, before, x.drills(0, k), BAD);
        }
        Due.is("the last of six", x.drills(0, 5), 5);
        Due.stands("the last of six", x, 0, 0, 0, 0, 2, 1, 3, 1, 5, 1, 7, 1, 11, 1);
        Due.is("it is gone", x.drills(0, 5), BAD);
        Due.is("the first of five", x.drills(0, 0), 4);
        Due.stands("the first of five", x, 0, 0, 0, 0, 3, 1, 5, 1, 7, 1, 11, 1);
        Due.is("in the middle", x.drills(0, 1), 3);
        Due.stands("in the middle", x, 0, 0, 0, 0, 3, 1, 7, 1, 11, 1);
    }

    /** Promise 8: a space without fibres has no fibre 0. */
    private static void promise8NoFibres() {
        FibredSpaces x = Scene.shifted(4, "n1;f2 1;");
        Due.is("the only fibre", x.drills(0, 0), 0);
        Due.is("none is left", x.drills(0, 0), BAD);
        Due.stands("none is left", x, 0, 1, 1, 4);
        Due.is("actions", x.count(3), 1);
    }

    /** Promise 8: the shift stays, at its ends, too. */
    private static void promise8ShiftStays() {
        for (int shift = -999; shift <= 999; shift += 1998) {
            FibredSpaces x = Scene.shifted(shift, "f30 29;");
            Due.is("drills", x.drills(0, 0), 0);
            Due.stands("drills", x, 0, 0, 0, shift);
        }
    }

    /** Promise 9: BAD if there is no such space. */
    private static void promise9Spaces() {
        FibredSpaces x = Scene.shifted(2, "f3 1;");
        for (int i : Scene.NO_SPACES) {
            refused("turnsOn(" + i + ",2)", x, Scene.shelf(x), x.turnsOn(i, 2), BAD);
        }
        Due.is("turnsOn(0,2)", x.turnsOn(0, 2), 1);
        Due.stands("turnsOn(0,2)", x, 0, 0, 0, 4, 3, 2);
        Due.is("turnsOn(5,2)", x.turnsOn(5, 2), 1);
    }

    /** Promise 9: the order, 2 to 9. */
    private static void promise9Orders() {
        for (int m : new int[] {1, 10, 0, -1, -2, 11, Integer.MIN_VALUE, Integer.MAX_VALUE}) {
            FibredSpaces x = Scene.shifted(1, "f11 3;");
            refused("turnsOn(0," + m + ")", x, Scene.shelf(x), x.turnsOn(0, m), BAD);
        }
        FibredSpaces x = Scene.shifted(1, "f11 3;");
        Due.is("m = 2", x.turnsOn(0, 2), 1);
        Due.stands("m = 2", x, 0, 0, 0, 2, 11, 6);
        Due.is("m = 9", x.turnsOn(0, 9), 1);
        Due.stands("m = 9", x, 0, 0, 0, 18 + 4, 11, 10);
    }

    /** Promise 9: STATE if an A is not coprime to m. */
    private static void promise9NotCoprime() {
        FibredSpaces x = Scene.shifted(0, "f3 1;f5 1;f7 1;f8 1;");
        String before = Scene.shelf(x);
        for (int m = 2; m <= 9; m++) {
            refused("turnsOn(0," + m + ")", x, before, x.turnsOn(0, m), STATE);
        }
        for (String text : new String[] {"f3 1;f5 1;f30 1;", "f2 1;f3 1;f5 1;", "f3 1;f14 1;f15 1;"}) {
            FibredSpaces y = Scene.shifted(0, text);
            refused("2 on " + text, y, Scene.shelf(y), y.turnsOn(0, 2), STATE);
        }
        FibredSpaces z = Scene.shifted(0, "f3 1;f5 1;f15 1;");
        Due.is("all are coprime", z.turnsOn(0, 8), 1);
    }

    /** Promise 9: FULL if the new space would have a shift above 999. */
    private static void promise9ShiftTooLarge() {
        turned("111 by 9", 111, 9, 999);
        notTurned("112 by 9", 112, 9, "");
        turned("499 by 2", 499, 2, 998);
        notTurned("500 by 2", 500, 2, "");
        notTurned("999 by 9", 999, 9, "");
        FibredSpaces x = Scene.shifted(499, "f3 2;");
        Due.is("499 and 2/3 by 2", x.turnsOn(0, 2), 1);
        Due.stands("499 and 2/3 by 2", x, 0, 0, 0, 999, 3, 1);
        notTurned("499 and twice 2/3 by 2", 499, 2, "f3 2;f3 2;");
    }

    /** Promise 9: FULL if the new space would have a shift below -999; the fibres may lift it. */
    private static void promise9ShiftTooSmall() {
        turned("-111 by 9", -111, 9, -999);
        notTurned("-112 by 9", -112, 9, "");
        turned("-499 by 2", -499, 2, -998);
        notTurned("-500 by 2", -500, 2, "");
        notTurned("-999 by 9", -999, 9, "");
        notTurned("-500 and 1/3 by 2", -500, 2, "f3 1;");
        FibredSpaces x = Scene.shifted(-500, "f3 2;");
        Due.is("-500 and 2/3 by 2", x.turnsOn(0, 2), 1);
        Due.stands("-500 and 2/3 by 2", x, 0, 0, 0, -999, 3, 1);
    }

    private static void turned(String what, int shift, int m, int due) {
        FibredSpaces x = Scene.shifted(shift, "n3;");
        Due.is(what, x.turnsOn(0, m), 1);
        Due.stands(what, x, 0, 1, 3, due);
    }

    private static void notTurned(String what, int shift, int m, String text) {
        FibredSpaces x = Scene.shifted(shift, text);
        refused(what, x, Scene.shelf(x), x.turnsOn(0, m), FULL);
    }

    /** Promise 9, and the order of the errors: BAD, then STATE, then FULL. */
    private static void promise9OrderOfErrors() {
        FibredSpaces x = Scene.shifted(999, "f2 1;");
        String before = Scene.shelf(x);
        refused("STATE before FULL", x, before, x.turnsOn(0, 2), STATE);
        refused("FULL alone", x, before, x.turnsOn(0, 3), FULL);
        refused("BAD before both", x, before, x.turnsOn(0, 10), BAD);
        refused("BAD before both", x, before, x.turnsOn(6, 2), BAD);
    }

    /** Promise 10: BAD if there is no such space. */
    private static void promise10Spaces() {
        FibredSpaces x = Scene.shifted(4, "f3 2;");
        for (int i : Scene.NO_SPACES) {
            refused("unwraps(" + i + ",2)", x, Scene.shelf(x), x.unwraps(i, 2), BAD);
        }
        Due.is("unwraps(0,2)", x.unwraps(0, 2), 1);
        Due.stands("unwraps(0,2)", x, 0, 0, 0, 2, 3, 1);
        Due.is("unwraps(5,2)", x.unwraps(5, 2), 1);
        Due.stands("unwraps(5,2)", x, 5, 0, 0, 0);
    }

    /** Promise 10: the order, 2 to 9. */
    private static void promise10Orders() {
        for (int m : new int[] {1, 10, 0, -1, -2, 11, Integer.MIN_VALUE, Integer.MAX_VALUE}) {
            FibredSpaces x = Scene.shifted(0, "");
            refused("unwraps(0," + m + ")", x, Scene.shelf(x), x.unwraps(0, m), BAD);
        }
        FibredSpaces x = Scene.shifted(22, "f11 10;");
        Due.is("m = 9", x.unwraps(0, 9), 1);
        Due.stands("m = 9", x, 0, 0, 0, 2, 11, 6);
        Due.is("m = 2", x.unwraps(0, 2), 1);
        Due.stands("m = 2", x, 0, 0, 0, 1, 11, 3);
    }

    /** Promise 10: STATE if an A is not coprime to m, even where the shift could be divided. */
    private static void promise10NotCoprime() {
        FibredSpaces x = Scene.shifted(0, "f3 1;f5 1;f7 1;f8 1;");
        String before = Scene.shelf(x);
        for (int m = 2; m <= 9; m++) {
            refused("unwraps(0," + m + ")", x, before, x.unwraps(0, m), STATE);
        }
        FibredSpaces y = Scene.shifted(0, "f3 2;f30 1;");
        refused("the last A", y, Scene.shelf(y), y.unwraps(0, 2), STATE);
    }

    /** Promise 10: STATE if there is no such space otherwise: the shift that is left is no multiple. */
    private static void promise10NotDivisible() {
        for (int shift = -9; shift <= 9; shift++) {
            FibredSpaces x = Scene.shifted(shift, "n2;");
            if (shift % 9 == 0) {
                Due.is("shift " + shift, x.unwraps(0, 9), 1);
                Due.stands("shift " + shift, x, 0, 1, 2, shift / 9);
            } else {
                refused("shift " + shift, x, Scene.shelf(x), x.unwraps(0, 9), STATE);
            }
        }
        FibredSpaces x = Scene.shifted(0, "f3 1;");
        refused("1/3 by 2", x, Scene.shelf(x), x.unwraps(0, 2), STATE);
        x = Scene.shifted(1, "f3 1;");
        Due.is("1 and 1/3 by 2", x.unwraps(0, 2), 1);
        Due.stands("1 and 1/3 by 2", x, 0, 0, 0, 0, 3, 2);
    }

    /** Promise 10: from the ends of the shift, and turnsOn() makes them again. */
    private static void promise10EndsOfTheShift() {
        unwrapped(999, "", 9, 111);
        unwrapped(-999, "", 9, -111);
        unwrapped(999, "f3 1;", 2, 499, 3, 2);
        unwrapped(-999, "f3 1;", 2, -500, 3, 2);
        FibredSpaces x = Scene.shifted(999, "");
        refused("999 by 2", x, Scene.shelf(x), x.unwraps(0, 2), STATE);
        x = Scene.shifted(-999, "");
        refused("-999 by 2", x, Scene.shelf(x), x.unwraps(0, 2), STATE);
    }

    private static void unwrapped(int shift, String text, int m, int due, int... fibres) {
        FibredSpaces x = Scene.shifted(shift, text);
        String before = Scene.shelf(x);
        Due.is("unwraps " + shift + " by " + m, x.unwraps(0, m), 1);
        Due.stands("unwraps " + shift + " by " + m, x, 0, 0, 0, due, fibres);
        Due.is("turnsOn again", x.turnsOn(0, m), 1);
        Due.same("turnsOn again", Scene.shelf(x), before);
    }

    /** Promise 10, and the order of the errors: BAD before STATE. */
    private static void promise10OrderOfErrors() {
        FibredSpaces x = Scene.shifted(1, "f2 1;");
        String before = Scene.shelf(x);
        refused("STATE alone", x, before, x.unwraps(0, 8), STATE);
        refused("BAD before STATE", x, before, x.unwraps(0, 10), BAD);
        refused("BAD before STATE", x, before, x.unwraps(-1, 8), BAD);
    }

    /** Promise 11: BAD if there is no such space. */
    private static void promise11Spaces() {
        FibredSpaces x = Scene.shifted(0, "o1;f3 1;");
        for (int i : Scene.NO_SPACES) {
            refused("unrolls(" + i + ",2)", x, Scene.shelf(x), x.unrolls(i, 2), BAD);
        }
        Due.is("unrolls(0,2)", x.unrolls(0, 2), 2);
        Due.tell(x, 5, "n2;", 1);
        Due.is("unrolls(5,2)", x.unrolls(5, 2), 0);
    }

    /** Promise 11: the number of sheets, 2 or 3. */
    private static void promise11Sheets() {
        for (int d : new int[] {1, 4, 0, -2, Integer.MIN_VALUE, Integer.MAX_VALUE}) {
            FibredSpaces x = Scene.shifted(0, "o1;");
            refused("unrolls(0," + d + ")", x, Scene.shelf(x), x.unrolls(0, d), BAD);
        }
        FibredSpaces x = Scene.shifted(5, "o1;f3 1;");
        Due.is("2 sheets", x.unrolls(0, 2), 2);
        Due.stands("2 sheets", x, 0, 0, 1, 10, 3, 1, 3, 1);
        Due.is("3 sheets", x.unrolls(0, 3), 6);
        Due.stands("3 sheets", x, 0, 0, 1, 30, 3, 1, 3, 1, 3, 1, 3, 1, 3, 1, 3, 1);
    }

    private static void unrolled(String text, int d, int kind, int genus) {
        FibredSpaces x = Scene.shifted(0, text);
        Due.is(text + " with " + d, x.unrolls(0, d), 0);
        Due.stands(text + " with " + d, x, 0, kind, genus, 0);
    }

    private static void notUnrolled(int shift, String text, int d, int error) {
        FibredSpaces x = Scene.shifted(shift, text);
        refused(text + " with " + d + ", shift " + shift, x, Scene.shelf(x), x.unrolls(0, d), error);
    }

    /** Promise 11: g at least 1 for kind 0, at least 2 for kind 1; STATE if the genus is too small. */
    private static void promise11GenusTooSmall() {
        for (int d = 2; d <= 3; d++) {
            notUnrolled(0, "o0;", d, STATE);
            unrolled("o1;", d, 0, 1);
            notUnrolled(0, "n1;", d, STATE);
            unrolled("n2;", d, 1, 2);
        }
    }

    /** Promise 11: FULL if the new space would have a genus above 4. */
    private static void promise11GenusAbove4() {
        unrolled("o2;", 2, 0, 3);
        unrolled("o2;", 3, 0, 4);
        unrolled("n3;", 2, 1, 4);
        notUnrolled(0, "n3;", 3, FULL);
        notUnrolled(0, "o3;", 2, FULL);
        notUnrolled(0, "o3;", 3, FULL);
        notUnrolled(0, "o4;", 2, FULL);
        notUnrolled(0, "n4;", 2, FULL);
        notUnrolled(0, "n4;", 3, FULL);
    }

    /** Promise 11: FULL if the new space would have more than 6 fibres. */
    private static void promise11SevenFibres() {
        FibredSpaces x = Scene.shifted(0, "n2;f3 1;f4 1;f5 1;");
        Due.is("twice 3", x.unrolls(0, 2), 6);
        Due.stands("twice 3", x, 0, 1, 2, 0, 3, 1, 3, 1, 4, 1, 4, 1, 5, 1, 5, 1);
        notUnrolled(0, "n2;f3 1;f4 1;f5 1;f7 1;", 2, FULL);
        x = Scene.shifted(0, "n2;f3 1;f4 1;");
        Due.is("three times 2", x.unrolls(0, 3), 6);
        Due.stands("three times 2", x, 0, 1, 2, 0, 3, 1, 3, 1, 3, 1, 4, 1, 4, 1, 4, 1);
        notUnrolled(0, "n2;f3 1;f4 1;f5 1;", 3, FULL);
        notUnrolled(0, "n2;f3 1;f3 1;f3 1;f3 1;f3 1;f3 1;", 3, FULL);
    }

    /** Promise 11: d times the shift; FULL below -999 or above 999. */
    private static void promise11Shift() {
        int[][] inside = {{333, 3, 999}, {-333, 3, -999}, {499, 2, 998}, {-499, 2, -998}};
        for (int[] s : inside) {
            FibredSpaces x = Scene.shifted(s[0], "o1;");
            Due.is("shift " + s[0] + " with " + s[1], x.unrolls(0, s[1]), 0);
            Due.stands("shift " + s[0] + " with " + s[1], x, 0, 0, 1, s[2]);
        }
        int[][] outside = {{334, 3}, {-334, 3}, {500, 2}, {-500, 2}, {999, 3}, {-999, 3}};
        for (int[] s : outside) {
            notUnrolled(s[0], "o1;", s[1], FULL);
        }
    }

    /** Promise 11, and the order of the errors: BAD, then STATE, then FULL. */
    private static void promise11OrderOfErrors() {
        notUnrolled(999, "o0;f2 1;f2 1;f2 1;f2 1;", 2, STATE);
        notUnrolled(999, "n1;f2 1;f2 1;f2 1;f2 1;", 3, STATE);
        notUnrolled(999, "o1;f2 1;f2 1;f2 1;f2 1;", 2, FULL);
        notUnrolled(999, "n1;f2 1;f2 1;f2 1;f2 1;", 4, BAD);
        notUnrolled(999, "o4;f2 1;f2 1;f2 1;f2 1;", 1, BAD);
    }

    /** Promise 12: STATE if there is none, and the shelf stays. */
    private static void promise12Nothing() {
        FibredSpaces x = new FibredSpaces();
        refused("a new object", x, Scene.shelf(new FibredSpaces()), x.undo(), STATE);
        x.fills(0, 3, 1);
        Due.is("the only one", x.undo(), 0);
        refused("none is left", x, Scene.shelf(new FibredSpaces()), x.undo(), STATE);
        x = Scene.shifted(7, "f3 1;");
        refused("behind back()", x, Scene.shelf(x), x.undo(), STATE);
    }

    /** Promise 12, and the Terms: the shelf before each of the latest 6 actions is kept. */
    private static void promise12LatestSix() {
        for (int actions = 5; actions <= 8; actions++) {
            FibredSpaces x = new FibredSpaces();
            for (int k = 0; k < actions; k++) {
                x.fills(k % 6, 1, 1);
            }
            int kept = Math.min(actions, 6);
            Due.is("after " + actions, x.count(3), kept);
            for (int k = 1; k <= kept; k++) {
                Due.is("undo " + k + " of " + actions, x.undo(), kept - k);
                Due.same("undo " + k + " of " + actions, Scene.shelf(x), shelfAfter(actions - k));
            }
            Due.is("no more of " + actions, x.undo(), STATE);
            Due.same("no more of " + actions, Scene.shelf(x), shelfAfter(actions - kept));
        }
    }

    private static String shelfAfter(int actions) {
        FibredSpaces x = new FibredSpaces();
        for (int k = 0; k < actions; k++) {
            x.fills(k % 6, 1, 1);
        }
        return Scene.shelf(x);
    }

    /** Promise 12, and the Terms: also if nothing was changed. */
    private static void promise12AlsoIfNothingWasChanged() {
        FibredSpaces x = Scene.shifted(0, "o1;");
        String before = Scene.shelf(x);
        Due.is("tells", x.tells(3), 0);
        Due.is("mirrors", x.mirrors(0), 1);
        Due.is("joins", x.joins(0, 0, 1), 0);
        Due.is("fills", x.fills(0, 1, 0), 0);
        Due.is("turnsOn", x.turnsOn(0, 2), 1);
        Due.is("unwraps", x.unwraps(0, 2), 1);
        Due.is("six actions", x.count(3), 6);
        Due.is("unrolls", x.unrolls(0, 3), 0);
        Due.is("six actions still", x.count(3), 6);
        for (int k = 5; k >= 0; k--) {
            Due.same("nothing was changed", Scene.shelf(x), before);
            Due.is("undo", x.undo(), k);
        }
        Due.is("no more", x.undo(), STATE);
    }

    /** Promise 12: actions are those that return no error. */
    private static void promise12RefusedCallsAreNoActions() {
        FibredSpaces x = Scene.shifted(999, "f2 1;");
        x.fills(1, 5, 2);
        x.type('x');
        Due.is("tells", x.tells(0), -10);
        Due.is("mirrors", x.mirrors(0), FULL);
        Due.is("joins", x.joins(1, 0, 0), FULL);
        Due.is("fills", x.fills(0, 1, 1), FULL);
        Due.is("drills", x.drills(0, 1), BAD);
        Due.is("turnsOn", x.turnsOn(0, 2), STATE);
        Due.is("unwraps", x.unwraps(0, 2), STATE);
        Due.is("unrolls", x.unrolls(0, 2), STATE);
        Due.is("one action", x.count(3), 1);
        Due.is("undo", x.undo(), 0);
        Due.stands("before the fills", x, 1, 0, 0, 0);
    }

    /** Promise 12: undo() itself, keep() and the calls that only ask are no actions. */
    private static void promise12IsNoAction() {
        FibredSpaces x = new FibredSpaces();
        x.fills(0, 1, 1);
        x.fills(0, 1, 1);
        Due.is("undo", x.undo(), 1);
        Due.is("count", x.count(3), 1);
        x.keep(0);
        x.like(0, 1);
        x.which();
        x.ask();
        x.sees(2, 1);
        x.forget();
        x.type(';');
        x.clear();
        Due.is("count", x.count(3), 1);
        Due.is("undo", x.undo(), 0);
        Due.is("shift", x.space(0, 2), 0);
    }

    /** Promise 12: after undo() there is room for as many new actions, and never for more than 6. */
    private static void promise12RoundTheRing() {
        FibredSpaces x = new FibredSpaces();
        for (int k = 0; k < 8; k++) {
            x.fills(0, 1, 1);
        }
        Due.is("undo", x.undo(), 5);
        Due.is("undo", x.undo(), 4);
        int[] kept = {5, 6, 6};
        for (int k = 0; k < 3; k++) {
            x.fills(0, 1, 10);
            Due.is("new actions", x.count(3), kept[k]);
        }
        int[] shifts = {26, 16, 6, 5, 4, 3};
        for (int k = 0; k < 6; k++) {
            Due.is("undo", x.undo(), 5 - k);
            Due.is("shift", x.space(0, 2), shifts[k]);
        }
        Due.is("no more", x.undo(), STATE);
        Due.is("shift", x.space(0, 2), 3);
    }

    /** Promise 12: restores the shelf; text, observations and images are not on it. */
    private static void promise12TheShelfAlone() {
        FibredSpaces x = new FibredSpaces();
        Due.type(x, "f3 1;");
        x.tells(0);
        x.keep(0);
        x.sees(3, 1);
        Due.type(x, "f5");
        Due.is("undo", x.undo(), 0);
        Due.is("text", x.count(2), 2);
        Due.is("observations", x.count(1), 1);
        Due.is("image", x.back(0), 1);
    }
}
