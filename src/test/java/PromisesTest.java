/** One method for each promise: ordinary inputs, the edges that the document names, wrong inputs. */
public final class PromisesTest {
    private static final int BAD = FibredSpaces.BAD;
    private static final int STATE = FibredSpaces.STATE;
    private static final int FULL = FibredSpaces.FULL;
    private static final int NONE = FibredSpaces.NONE;
    private static final long NO = FibredSpaces.NO;
    private static final int[] WRONG = {-1, 6, 7, Integer.MIN_VALUE, Integer.MAX_VALUE};

    public static void main(String[] args) {
        newObject();
        typeClearTells();
        mirrors();
        joins();
        fills();
        drills();
        turnsOn();
        unwraps();
        unrolls();
        undo();
        space();
        fibre();
        euler();
        over();
        like();
        torsion();
        maps();
        threes();
        lens();
        sees();
        whichAndForget();
        ask();
        keepAndBack();
        count();
        wrongSpaces();
        errorsChangeNothing();
        Due.end();
    }

    /** Promise 1. */
    private static void newObject() {
        FibredSpaces x = new FibredSpaces();
        for (int i = 0; i < 6; i++) {
            Due.stands("new", x, i, 0, 0, 0);
        }
        for (int what = 0; what < 4; what++) {
            Due.is("count(" + what + ") of a new object", x.count(what), 0);
        }
        Due.is("undo() of a new object", x.undo(), STATE);
        Due.is("back(0) of a new object", x.back(0), STATE);
        Due.is("back(1) of a new object", x.back(1), STATE);
        Due.is("which() of a new object", x.which(), 63);
        x.fills(0, 3, 1);
        Due.is("another object", new FibredSpaces().space(0, 3), 0);
    }

    /** Promises 2, 3 and 4, which TextsTest goes through. */
    private static void typeClearTells() {
        FibredSpaces x = new FibredSpaces();
        Due.type(x, "n2;f3 2;");
        Due.is("tells is an action", x.tells(1), 2);
        Due.is("so it can be undone", x.count(3), 1);
        Due.is("undo", x.undo(), 0);
        Due.stands("undone", x, 1, 0, 0, 0);
        Due.is("the text does not return", x.clear(), 0);
        Due.is("an empty text", x.tells(0), 0);
        Due.is("is an action, too", x.count(3), 1);
    }

    /** Promise 5. */
    private static void mirrors() {
        FibredSpaces x = Scene.with("f2 1;f3 1;f7 1;f1-1;", "n3;f2 1;f2-1;", "o2;f5 1;f5 2;");
        Due.is("mirrors", x.mirrors(0), 0);
        Due.stands("mirrors", x, 0, 0, 0, -2, 2, 1, 3, 2, 7, 6);
        Due.is("a space alike its mirror image", x.mirrors(1), 1);
        Due.stands("alike", x, 1, 1, 3, -1, 2, 1, 2, 1);
        Due.is("mirrors sorts", x.mirrors(2), 0);
        Due.stands("sorted", x, 2, 0, 2, -2, 5, 3, 5, 4);
        Due.is("no fibres, shift 0", x.mirrors(5), 1);
        for (int k = 0; k < 10; k++) {
            x.fills(3, 1, 99);
        }
        Due.is("shift 998", x.fills(3, 1, 8), 0);
        Due.is("one fibre", x.fills(3, 2, 1), 1);
        Due.is("mirror to -999", x.mirrors(3), 0);
        Due.stands("-999", x, 3, 0, 0, -999, 2, 1);
        Due.is("back to 998", x.mirrors(3), 0);
        Due.is("to 999", x.fills(3, 1, 1), 1);
        Due.is("mirror to -1000", x.mirrors(3), FULL);
        Due.stands("full", x, 3, 0, 0, 999, 2, 1);
    }

    /** Promise 6. */
    private static void joins() {
        FibredSpaces x = Scene.with("o1;f3 1;f1 4;", "o2;f2 1;f3 2;", "n1;f5 4;f1-7;", "n2;f2 1;f2 1;f2 1;f2 1;");
        Due.is("joins", x.joins(4, 0, 1), 3);
        Due.stands("both of kind 0", x, 4, 0, 3, 4, 2, 1, 3, 1, 3, 2);
        Due.is("kind 0 counts twice", x.joins(4, 0, 2), 2);
        Due.stands("of both kinds", x, 4, 1, 3, -3, 3, 1, 5, 4);
        Due.is("the other way round", x.joins(4, 2, 0), 2);
        Due.stands("the other way round", x, 4, 1, 3, -3, 3, 1, 5, 4);
        Due.is("both of kind 1", x.joins(4, 2, 3), 5);
        Due.stands("both of kind 1", x, 4, 1, 3, -7, 2, 1, 2, 1, 2, 1, 2, 1, 5, 4);
        Due.is("genus 5", x.joins(5, 1, 2), FULL);
        Due.is("genus 6", x.joins(5, 1, 3), FULL);
        Due.is("8 fibres", x.joins(5, 3, 3), FULL);
        Due.is("6 fibres", x.joins(5, 3, 0), 5);
        Due.is("with itself", x.joins(0, 0, 0), 2);
        Due.stands("with itself", x, 0, 0, 2, 8, 3, 1, 3, 1);
        Due.is("genus 4", x.joins(0, 0, 0), 4);
        Due.is("genus 8", x.joins(0, 0, 0), FULL);
        FibredSpaces y = Scene.with("f1 99;f1 99;f1 99;f1 99;f1 99;", "f1 99;f1 99;f1 99;f1 99;f1 99;f1 9;", "f1-1;");
        Due.is("shift 999", y.joins(3, 0, 1), 0);
        Due.is("shift 1008", y.joins(4, 1, 1), FULL);
        Due.is("shift 998", y.joins(4, 3, 2), 0);
    }

    /** Promise 7. */
    private static void fills() {
        FibredSpaces x = new FibredSpaces();
        Due.is("A = 0", x.fills(0, 0, 1), BAD);
        Due.is("A = 31", x.fills(0, 31, 1), BAD);
        Due.is("A = -3", x.fills(0, -3, 1), BAD);
        Due.is("B = 100", x.fills(0, 3, 100), BAD);
        Due.is("B = -100", x.fills(0, 3, -100), BAD);
        Due.is("extremes", x.fills(0, Integer.MIN_VALUE, Integer.MIN_VALUE), BAD);
        Due.is("extremes", x.fills(0, 1, Integer.MIN_VALUE), BAD);
        Due.is("2 and 0", x.fills(0, 2, 0), BAD);
        Due.is("6 and -9", x.fills(0, 6, -9), BAD);
        Due.is("nothing to undo", x.count(3), 0);
        Due.is("1 and 0", x.fills(0, 1, 0), 0);
        Due.is("1 and 99", x.fills(0, 1, 99), 0);
        Due.is("30 and -99 are not coprime", x.fills(0, 30, -99), BAD);
        Due.is("30 and -97", x.fills(0, 30, -97), 1);
        Due.stands("30 and -97", x, 0, 0, 0, 95, 30, 23);
        Due.is("29 and 99", x.fills(0, 29, 99), 2);
        Due.stands("29 and 99", x, 0, 0, 0, 98, 29, 12, 30, 23);
        Due.is("30 and 1", x.fills(0, 30, 1), 3);
        Due.is("30 and 29", x.fills(0, 30, 29), 4);
        Due.is("2 and -1", x.fills(0, 2, -1), 5);
        Due.is("2 and 1", x.fills(0, 2, 1), 6);
        Due.stands("sorted", x, 0, 0, 0, 97, 2, 1, 2, 1, 29, 12, 30, 1, 30, 23, 30, 29);
        Due.is("a seventh fibre", x.fills(0, 2, 1), FULL);
        Due.is("A = 1 is no fibre", x.fills(0, 1, -99), 6);
        Due.is("BAD before FULL", x.fills(0, 2, 2), BAD);
        for (int k = 0; k < 10; k++) {
            x.fills(1, 1, -99);
        }
        Due.is("-999", x.fills(1, 1, -9), 0);
        Due.is("-1000", x.fills(1, 1, -1), FULL);
        Due.is("-1000", x.fills(1, 7, -1), FULL);
        Due.is("a fibre", x.fills(1, 7, 1), 1);
        Due.stands("-999", x, 1, 0, 0, -999, 7, 1);
    }

    /** Promise 8. */
    private static void drills() {
        FibredSpaces x = Scene.with("n2;f2 1;f3 1;f3 2;f1 8;");
        Due.is("no fibre 3", x.drills(0, 3), BAD);
        Due.is("no fibre -1", x.drills(0, -1), BAD);
        Due.is("no fibre max", x.drills(0, Integer.MAX_VALUE), BAD);
        Due.is("no fibres", x.drills(1, 0), BAD);
        Due.is("drills", x.drills(0, 1), 2);
        Due.stands("drills", x, 0, 1, 2, 8, 2, 1, 3, 2);
        Due.is("drills", x.drills(0, 0), 1);
        Due.is("drills", x.drills(0, 0), 0);
        Due.stands("drilled", x, 0, 1, 2, 8);
        Due.is("drills", x.drills(0, 0), BAD);
        Due.is("tells and three drills", x.count(3), 4);
    }

    /** Promise 9. */
    private static void turnsOn() {
        FibredSpaces x = Scene.with("f3 1;f5 4;f1-2;", "o1;f7 1;f7 3;", "f1 99;f1 12;", "f2 1;f1 99;f1 99;f1 99;f1 99;");
        Due.is("m = 1", x.turnsOn(0, 1), BAD);
        Due.is("m = 10", x.turnsOn(0, 10), BAD);
        Due.is("not coprime", x.turnsOn(0, 9), STATE);
        Due.is("not coprime", x.turnsOn(0, 5), STATE);
        Due.is("not coprime is told before full", x.turnsOn(3, 4), STATE);
        Due.is("turnsOn", x.turnsOn(0, 8), 1);
        Due.stands("turnsOn", x, 0, 0, 0, -16 + 2 + 6, 3, 2, 5, 2);
        Due.is("turnsOn sorts", x.turnsOn(1, 5), 1);
        Due.stands("turnsOn sorts", x, 1, 0, 1, 2, 7, 1, 7, 5);
        Due.is("999", x.turnsOn(2, 9), 1);
        Due.stands("999", x, 2, 0, 0, 999);
        Due.is("1998", x.turnsOn(2, 2), FULL);
        Due.is("no fibres", x.turnsOn(5, 2), 1);
    }

    /** Promise 10. */
    private static void unwraps() {
        FibredSpaces x = Scene.with("f3 2;f5 2;f1-8;", "f3 2;f5 2;f1-7;", "n2;f1-18;", "f3 1;f1 1;");
        Due.is("m = 1", x.unwraps(0, 1), BAD);
        Due.is("m = 10", x.unwraps(0, 10), BAD);
        Due.is("not coprime", x.unwraps(0, 9), STATE);
        Due.is("unwraps", x.unwraps(0, 8), 1);
        Due.stands("unwraps", x, 0, 0, 0, -2, 3, 1, 5, 4);
        Due.is("turnsOn returns", x.turnsOn(0, 8), 1);
        Due.stands("turnsOn returns", x, 0, 0, 0, -8, 3, 2, 5, 2);
        Due.is("none", x.unwraps(1, 8), STATE);
        Due.is("shift -18 by 9", x.unwraps(2, 9), 1);
        Due.stands("shift -2", x, 2, 1, 2, -2);
        Due.is("shift -2 by 3", x.unwraps(2, 3), STATE);
        Due.is("1 + 1/3 by 4", x.unwraps(3, 4), 1);
        Due.stands("1/3", x, 3, 0, 0, 0, 3, 1);
        Due.is("1/3 by 2", x.unwraps(3, 2), STATE);
    }

    /** Promise 11. */
    private static void unrolls() {
        FibredSpaces x = Scene.with("o1;f3 1;f5 2;f1-7;", "n2;f2 1;f2 1;f2 1;", "o2;f1 99;f1 99;f1 99;f1 99;",
                "n3;f1 5;", "n1;", "o1;f1 99;f1 99;f1 99;f1 36;");
        Due.is("d = 1", x.unrolls(0, 1), BAD);
        Due.is("d = 4", x.unrolls(0, 4), BAD);
        Due.is("torus, 3 sheets", x.unrolls(0, 3), 6);
        Due.stands("torus, 3 sheets", x, 0, 0, 1, -21, 3, 1, 3, 1, 3, 1, 5, 2, 5, 2, 5, 2);
        Due.is("12 fibres", x.unrolls(0, 2), FULL);
        Due.is("9 fibres", x.unrolls(1, 3), FULL);
        Due.is("Klein bottle, 2 sheets", x.unrolls(1, 2), 6);
        Due.stands("Klein bottle, 2 sheets", x, 1, 1, 2, 0, 2, 1, 2, 1, 2, 1, 2, 1, 2, 1, 2, 1);
        Due.is("shift 1188", x.unrolls(2, 3), FULL);
        Due.is("genus 2, 2 sheets", x.unrolls(2, 2), 0);
        Due.stands("genus 3", x, 2, 0, 3, 792);
        Due.is("genus 5", x.unrolls(2, 2), FULL);
        Due.is("genus 3 of kind 1, 3 sheets", x.unrolls(3, 3), FULL);
        Due.is("genus 3 of kind 1, 2 sheets", x.unrolls(3, 2), 0);
        Due.stands("genus 4", x, 3, 1, 4, 10);
        Due.is("genus 6", x.unrolls(3, 2), FULL);
        Due.is("genus 1 of kind 1", x.unrolls(4, 2), STATE);
        Due.is("BAD before STATE", x.unrolls(4, 4), BAD);
        Due.is("shift 999", x.unrolls(5, 3), 0);
        Due.stands("shift 999", x, 5, 0, 1, 999);
        Due.is("sphere", new FibredSpaces().unrolls(0, 2), STATE);
        FibredSpaces y = Scene.with("o2;f1 1;", "f2 1;f2 1;f2 1;f2 1;f1 99;f1 99;f1 99;f1 99;");
        Due.is("genus 2, 3 sheets", y.unrolls(0, 3), 0);
        Due.stands("genus 4", y, 0, 0, 4, 3);
        Due.is("STATE before FULL", y.unrolls(1, 3), STATE);
    }

    /** Promise 12. */
    private static void undo() {
        FibredSpaces x = new FibredSpaces();
        for (int k = 1; k <= 8; k++) {
            x.fills(0, 1, 1);
            Due.is("how many can be undone", x.count(3), Math.min(k, 6));
        }
        for (int k = 5; k >= 0; k--) {
            Due.is("undo", x.undo(), k);
            Due.is("shift", x.space(0, 2), k + 2);
        }
        Due.is("nothing more", x.undo(), STATE);
        Due.stands("the first two stay", x, 0, 0, 0, 2);
        Due.is("mirrors of nothing", x.mirrors(4), 1);
        Due.is("can be undone, too", x.undo(), 0);
        x.fills(1, 3, 1);
        x.drills(1, 0);
        Due.is("an error is no action", x.drills(1, 0), BAD);
        Due.is("undo", x.undo(), 1);
        x.fills(1, 3, 2);
        Due.is("again two", x.count(3), 2);
        Due.is("undo", x.undo(), 1);
        Due.stands("one fibre", x, 1, 0, 0, 0, 3, 1);
        Due.is("undo", x.undo(), 0);
        Due.stands("no fibre", x, 1, 0, 0, 0);
        everyActionCounts();
    }

    private static void everyActionCounts() {
        FibredSpaces x = Scene.with("o1;f2 1;");
        Due.is("tells", x.count(3), 1);
        x.mirrors(0);
        Due.is("mirrors", x.count(3), 2);
        x.joins(1, 0, 2);
        Due.is("joins", x.count(3), 3);
        x.turnsOn(0, 3);
        Due.is("turnsOn", x.count(3), 4);
        x.unwraps(0, 3);
        Due.is("unwraps", x.count(3), 5);
        x.unrolls(0, 2);
        Due.is("unrolls", x.count(3), 6);
        Due.stands("all", x, 0, 0, 1, -2, 2, 1, 2, 1);
        x.undo();
        Due.stands("before unrolls", x, 0, 0, 1, -1, 2, 1);
        x.undo();
        Due.stands("before unwraps", x, 0, 0, 1, -2, 2, 1);
        x.undo();
        Due.stands("before turnsOn", x, 0, 0, 1, -1, 2, 1);
        x.undo();
        Due.stands("before joins", x, 1, 0, 0, 0);
        x.undo();
        Due.stands("before mirrors", x, 0, 0, 1, 0, 2, 1);
        x.undo();
        Due.stands("before tells", x, 0, 0, 0, 0);
    }

    /** Promise 13. */
    private static void space() {
        FibredSpaces x = Scene.with("n4;f2 1;f4 3;f1-8;", "o3;", "f2 1;f2 1;f2 1;f2-1;f1-1;", "f2 1;f3 1;f6 1;", "n2;", "n1;f1 1;");
        Due.stands("space", x, 0, 1, 4, -8, 2, 1, 4, 3);
        Due.is("rank", x.space(0, 4), 3);
        Due.is("rank", x.space(1, 4), 7);
        Due.is("torsion", x.space(1, 5), 0);
        Due.is("rank with Euler number 0", x.space(2, 4), 1);
        Due.is("torsion with Euler number 0", x.space(2, 5), 2);
        int[] geometries = {5, 2, 1, 4, 1, 3};
        for (int i = 0; i < 6; i++) {
            Due.is("geometry " + i, x.space(i, 6), geometries[i]);
        }
        Due.is("geometry of a sphere times a circle", new FibredSpaces().space(0, 6), 0);
        Due.is("what = 7", x.space(0, 7), NO);
        Due.is("what = -1", x.space(0, -1), NO);
        Due.is("what = min", x.space(0, Integer.MIN_VALUE), NO);
    }

    /** Promise 14. */
    private static void fibre() {
        FibredSpaces x = Scene.with("f7 3;f2 1;");
        Due.is("A", x.fibre(0, 0, 0), 2);
        Due.is("B", x.fibre(0, 0, 1), 1);
        Due.is("A", x.fibre(0, 1, 0), 7);
        Due.is("B", x.fibre(0, 1, 1), 3);
        Due.is("no fibre 2", x.fibre(0, 2, 0), BAD);
        Due.is("no fibre -1", x.fibre(0, -1, 0), BAD);
        Due.is("no fibre max", x.fibre(0, Integer.MAX_VALUE, 0), BAD);
        Due.is("what = 2", x.fibre(0, 0, 2), BAD);
        Due.is("what = -1", x.fibre(0, 0, -1), BAD);
        x.drills(0, 1);
        Due.is("a fibre that was drilled", x.fibre(0, 1, 0), BAD);
    }

    private static void fraction(String what, long top, long bottom, long wantTop, long wantBottom) {
        Due.is(what + ", numerator", top, wantTop);
        Due.is(what + ", denominator", bottom, wantBottom);
    }

    /** Promise 15. */
    private static void euler() {
        FibredSpaces x = Scene.with("f6 1;f10 3;f1-1;", "f4 1;f4-1;", "n3;f1 9;", "f30 29;f29 28;f28 27;f27 26;f25 24;f23 22;");
        fraction("-(-1 + 1/6 + 3/10)", x.euler(0, 0), x.euler(0, 1), 8, 15);
        fraction("0", x.euler(1, 0), x.euler(1, 1), 0, 1);
        fraction("-9", x.euler(2, 0), x.euler(2, 1), -9, 1);
        // 1/30 + 1/29 + 1/28 + 1/27 + 1/25 + 1/23 less than 6
        fraction("long", x.euler(3, 0), x.euler(3, 1), -72813413, 12606300);
        fraction("new", x.euler(5, 0), x.euler(5, 1), 0, 1);
        Due.is("part 2", x.euler(0, 2), NO);
        Due.is("part -1", x.euler(0, -1), NO);
    }

    /** Promise 16. */
    private static void over() {
        FibredSpaces x = Scene.with("f2 1;f3 1;f7 1;", "o4;", "n4;f2 1;", "n1;f2 1;f2 1;", "f2 1;f4 1;");
        fraction("2 3 7", x.over(0, 0), x.over(0, 1), -1, 42);
        fraction("genus 4", x.over(1, 0), x.over(1, 1), -6, 1);
        fraction("genus 4 of kind 1", x.over(2, 0), x.over(2, 1), -5, 2);
        fraction("flat", x.over(3, 0), x.over(3, 1), 0, 1);
        fraction("2 4", x.over(4, 0), x.over(4, 1), 3, 4);
        fraction("sphere", x.over(5, 0), x.over(5, 1), 2, 1);
        Due.is("part 2", x.over(0, 2), NO);
        Due.is("part -1", x.over(0, -1), NO);
    }

    /** Promise 17. */
    private static void like() {
        FibredSpaces x = Scene.with("f3 1;f5 2;", "f5 2;f3 1;", "f3-1;f5-2;", "f2 1;f2-1;", "n1;f3 1;f5 2;", "o1;f3 1;f5 2;");
        Due.is("alike", x.like(0, 1), 1);
        Due.is("itself", x.like(0, 0), 1);
        Due.is("mirror image", x.like(0, 2), 2);
        Due.is("mirror image, turned round", x.like(2, 0), 2);
        Due.is("both", x.like(3, 3), 3);
        Due.is("another kind", x.like(0, 4), 0);
        Due.is("another genus", x.like(0, 5), 0);
        Due.is("another number of fibres", x.like(0, 3), 0);
        x.fills(1, 1, 1);
        Due.is("another shift", x.like(0, 1), 0);
        x.drills(2, 0);
        x.fills(2, 3, 1);
        Due.is("another B", x.like(0, 2), 0);
        FibredSpaces y = new FibredSpaces();
        for (int k = 0; k < 11; k++) {
            y.fills(0, 1, k < 10 ? 99 : 9);
        }
        y.fills(0, 2, 1);
        Due.is("a mirror image out of range", y.like(0, 0), 1);
        Due.is("like changes nothing", y.space(0, 2), 999);
    }

    private static void torsions(String text, long order, long... torsion) {
        FibredSpaces x = Scene.with(text);
        Due.is("order of " + text, x.torsion(0, -1), order);
        Due.is("size of " + text, x.space(0, 5), torsion.length);
        for (int k = 0; k < torsion.length; k++) {
            Due.is("torsion " + k + " of " + text, x.torsion(0, k), torsion[k]);
        }
        Due.is("end of " + text, x.torsion(0, torsion.length), NONE);
        Due.is("far behind " + text, x.torsion(0, Integer.MAX_VALUE), NONE);
        Due.is("-2 of " + text, x.torsion(0, -2), BAD);
        Due.is("min of " + text, x.torsion(0, Integer.MIN_VALUE), BAD);
    }

    /** Promise 18. */
    private static void torsion() {
        torsions("", 0);
        torsions("f1 1;", 1);
        torsions("f1-7;", 7, 7);
        torsions("f2 1;f3 1;f5-4;", 1);
        torsions("f2 1;f2 1;f2-1;", 4, 2, 2);
        torsions("f2 1;f2 1;f1-1;", 0);
        torsions("f4 1;f4 1;f4 1;f4 1;f1-1;", 0, 4, 4);
        torsions("f2 1;f4 1;f8 1;f16 1;f12 1;f6 1;", 87552, 2, 2, 4, 4, 1368);
        torsions("o1;f1 5;", 0, 5);
        torsions("n1;", 4, 2, 2);
        torsions("n1;f1 1;", 4, 4);
        torsions("n1;f3 1;", 12, 12);
        torsions("n1;f2 1;", 8, 8);
        torsions("n2;f2 1;f2 1;", 0, 4, 4);
        torsions("n1;f30 1;f30 1;f30 1;f30 1;f30 1;f30 1;", 4L * 729000000, 30, 30, 30, 30, 60, 60);
    }

    /** Promise 19. */
    private static void maps() {
        FibredSpaces x = Scene.with("f1 6;", "n2;f2 1;f2 1;", "o4;", "o4;f12 1;f12 1;f12 1;f12 1;f12 1;f12-5;", "f2 1;f3 1;f5-4;");
        long[] ofSix = {2, 3, 2, 1, 6, 1, 2, 3, 2, 1, 6};
        for (int m = 2; m <= 12; m++) {
            Due.is("maps of order 6 with " + m, x.maps(0, m), ofSix[m - 2]);
            Due.is("maps of a homology sphere", x.maps(4, m), 1);
        }
        Due.is("4, 4 and an infinite one with 4", x.maps(1, 4), 64);
        Due.is("4, 4 and an infinite one with 6", x.maps(1, 6), 24);
        Due.is("nine infinite ones", x.maps(2, 12), 5159780352L);
        Due.is("many maps", x.maps(3, 12), 106993205379072L);
        Due.is("m = 1", x.maps(0, 1), BAD);
        Due.is("m = 13", x.maps(0, 13), BAD);
        Due.is("m = min", x.maps(0, Integer.MIN_VALUE), BAD);
    }

    /** Promise 20. */
    private static void threes() {
        FibredSpaces x = Scene.with("f1 1;", "f1 2;", "f1 3;", "f1 6;", "f2 1;f2 1;f3-2;", "o4;");
        long[] want = {1, 4, 3, 6, 10, 578136};
        for (int i = 0; i < 6; i++) {
            Due.is("threes " + i, x.threes(i), want[i]);
        }
        Due.is("a sphere times a circle", new FibredSpaces().threes(0), 6);
        FibredSpaces y = Scene.with("n1;", "n2;f2 1;f2 1;", "o1;f1 2;");
        Due.is("n1", y.threes(0), 16);
        Due.is("n2", y.threes(1), 126);
        Due.is("o1", y.threes(2), 30);
    }

    private static void lensOf(String text, long p, long q) {
        FibredSpaces x = Scene.with(text);
        Due.is("P of " + text, x.lens(0, 0), p);
        Due.is("Q of " + text, x.lens(0, 1), q);
    }

    /** Promise 21. */
    private static void lens() {
        lensOf("", 0, 0);
        lensOf("f1 1;", 1, 0);
        lensOf("f1-2;", 2, 1);
        lensOf("f1 5;", 5, 1);
        lensOf("f1 5;f3 1;", 16, 3);
        lensOf("f1 5;f3 1;f5 2;", 86, 27);
        lensOf("f1-5;f3-1;f5-2;", 86, 27);
        lensOf("f2 1;f2-1;", 0, 0);
        lensOf("f2 1;f3-1;", 1, 0);
        lensOf("f30 7;", 7, 2);
        FibredSpaces drilled = Scene.with("f3 1;f5 2;f1 4;");
        drilled.drills(0, 1);
        Due.is("P without fibre 1", drilled.lens(0, 0), 13);
        Due.is("Q without fibre 1", drilled.lens(0, 1), 3);
        drilled.drills(0, 0);
        Due.is("P without fibres", drilled.lens(0, 0), 4);
        Due.is("Q without fibres", drilled.lens(0, 1), 1);
        FibredSpaces x = Scene.with("f2 1;f3 1;f5 1;", "o1;", "n1;");
        for (int i = 0; i < 3; i++) {
            Due.is("not defined", x.lens(i, 0), STATE);
            Due.is("not defined", x.lens(i, 1), STATE);
            Due.is("BAD before STATE", x.lens(i, 2), BAD);
            Due.is("BAD before STATE", x.lens(i, -1), BAD);
        }
    }

    /** Promise 22. */
    private static void sees() {
        FibredSpaces x = new FibredSpaces();
        Due.is("m = 1", x.sees(1, 1), BAD);
        Due.is("m = 13", x.sees(13, 1), BAD);
        Due.is("v = -1", x.sees(2, -1), BAD);
        Due.is("v = min", x.sees(2, Long.MIN_VALUE), BAD);
        Due.is("v = 0", x.sees(2, 0), 1);
        Due.is("none has 0", x.which(), 0);
        Due.is("v = max", x.sees(12, Long.MAX_VALUE), 2);
        for (int k = 3; k <= 6; k++) {
            Due.is("sees", x.sees(k, k), k);
        }
        Due.is("a seventh", x.sees(2, 2), FULL);
        Due.is("BAD before FULL", x.sees(13, 2), BAD);
        Due.is("BAD before FULL", x.sees(2, -2), BAD);
        Due.is("six", x.count(1), 6);
    }

    /** Promises 23 and 24. */
    private static void whichAndForget() {
        FibredSpaces x = Scene.with("f1 2;", "f1 3;", "f1 6;", "f1 5;", "f1 1;", "f1 4;");
        Due.is("without observations", x.which(), 63);
        Due.is("nothing to forget", x.forget(), 0);
        x.sees(2, 2);
        Due.is("even orders", x.which(), 1 + 4 + 32);
        x.sees(3, 1);
        Due.is("and not 6", x.which(), 1 + 32);
        x.sees(4, 4);
        Due.is("four", x.which(), 32);
        x.undo();
        Due.is("the present shelf", x.which(), 0);
        x.fills(3, 1, -1);
        Due.is("the present shelf", x.which(), 8);
        x.sees(4, 2);
        Due.is("a contradiction", x.which(), 0);
        Due.is("forget", x.forget(), 4);
        Due.is("all again", x.which(), 63);
        Due.is("nothing to forget", x.forget(), 0);
    }

    /** Promise 25. */
    private static void ask() {
        FibredSpaces x = Scene.with("f1 2;", "f1 3;", "f1 6;", "f1 5;", "f1 1;", "f1 4;");
        // 6 tells 2 and 4, 3, 6, and 5 and 1 from each other: at most two are the same
        Due.is("ask", x.ask(), 6);
        x.sees(2, 2);
        Due.is("2, 6 and 4: 3 leaves two, 12 none", x.ask(), 12);
        x.sees(3, 1);
        Due.is("2 and 4", x.ask(), 4);
        x.sees(4, 4);
        Due.is("one candidate", x.ask(), NONE);
        x.sees(4, 2);
        Due.is("no candidate", x.ask(), NONE);
        Due.is("all alike: the least one", new FibredSpaces().ask(), 2);
        FibredSpaces y = Scene.with("f1 7;", "f1 7;", "f1 11;", "f1 11;", "f1 1;", "f1 1;");
        Due.is("2 of 4 by 7 or 11: the least one", y.ask(), 7);
        y.sees(7, 1);
        Due.is("then by 11", y.ask(), 11);
    }

    /** Promises 26 and 27. */
    private static void keepAndBack() {
        FibredSpaces x = Scene.with("n2;f2 1;f3 1;", "o3;f5 1;f1-9;");
        x.sees(3, 3);
        x.type(';');
        for (int wrong : new int[] {-1, 2, Integer.MIN_VALUE, Integer.MAX_VALUE}) {
            Due.is("keep " + wrong, x.keep(wrong), BAD);
            Due.is("back " + wrong, x.back(wrong), BAD);
        }
        Due.is("keep", x.keep(1), 3);
        Due.is("keep is no action", x.count(3), 2);
        Due.is("the other image", x.back(0), STATE);
        x.fills(0, 7, 1);
        x.mirrors(1);
        Due.is("keep", x.keep(0), 4);
        x.drills(0, 0);
        x.drills(0, 0);
        Due.is("back", x.back(1), 3);
        Due.stands("back", x, 0, 1, 2, 0, 2, 1, 3, 1);
        Due.stands("back", x, 1, 0, 3, -9, 5, 1);
        Due.is("nothing can be undone", x.undo(), STATE);
        Due.is("observations stay", x.count(1), 1);
        Due.is("the text stays", x.count(2), 1);
        Due.is("back to the other", x.back(0), 4);
        Due.stands("the other", x, 0, 1, 2, 0, 2, 1, 3, 1, 7, 1);
        Due.stands("the other", x, 1, 0, 3, 8, 5, 4);
        x.drills(0, 0);
        Due.is("the image stays", x.back(0), 4);
        Due.stands("the image stays", x, 0, 1, 2, 0, 2, 1, 3, 1, 7, 1);
        x.drills(1, 0);
        Due.is("in place of what it had", x.keep(0), 3);
        Due.is("undo", x.undo(), 0);
        Due.is("back", x.back(0), 3);
        Due.stands("in place", x, 1, 0, 3, 8);
        FibredSpaces y = new FibredSpaces();
        Due.is("an image without fibres", y.keep(0), 0);
        y.fills(0, 1, 1);
        Due.is("an error leaves the undos", y.back(1), STATE);
        Due.is("one", y.count(3), 1);
        Due.is("back", y.back(0), 0);
        Due.stands("empty", y, 0, 0, 0, 0);
    }

    /** Promise 28. */
    private static void count() {
        FibredSpaces x = Scene.with("f2 1;f3 1;", "f5 1;");
        x.sees(2, 1);
        x.sees(2, 2);
        Due.type(x, "f1 1");
        Due.is("fibres", x.count(0), 3);
        Due.is("observations", x.count(1), 2);
        Due.is("text", x.count(2), 4);
        Due.is("undos", x.count(3), 2);
        for (int wrong : new int[] {-1, 4, Integer.MIN_VALUE, Integer.MAX_VALUE}) {
            Due.is("count " + wrong, x.count(wrong), BAD);
        }
    }

    private static void wrongSpaces() {
        FibredSpaces x = Scene.with("o1;f2 1;");
        for (int i : WRONG) {
            Due.is("tells", x.tells(i), BAD);
            Due.is("mirrors", x.mirrors(i), BAD);
            Due.is("joins", x.joins(i, 0, 0), BAD);
            Due.is("joins", x.joins(0, i, 0), BAD);
            Due.is("joins", x.joins(0, 0, i), BAD);
            Due.is("fills", x.fills(i, 3, 1), BAD);
            Due.is("drills", x.drills(i, 0), BAD);
            Due.is("turnsOn", x.turnsOn(i, 3), BAD);
            Due.is("unwraps", x.unwraps(i, 3), BAD);
            Due.is("unrolls", x.unrolls(i, 2), BAD);
            Due.is("space", x.space(i, 0), NO);
            Due.is("fibre", x.fibre(i, 0, 0), BAD);
            Due.is("euler", x.euler(i, 0), NO);
            Due.is("over", x.over(i, 0), NO);
            Due.is("like", x.like(i, 0), BAD);
            Due.is("like", x.like(0, i), BAD);
            Due.is("torsion", x.torsion(i, 0), BAD);
            Due.is("maps", x.maps(i, 2), BAD);
            Due.is("threes", x.threes(i), BAD);
            Due.is("lens", x.lens(i, 0), BAD);
        }
        Due.is("nothing was done", x.count(3), 1);
    }

    private static void errorsChangeNothing() {
        FibredSpaces x = Scene.with("o2;f2 1;f2 1;f4 1;f4 1;f1 99;f1 99;f1 99;f1 99;");
        x.turnsOn(0, 2);
        x.turnsOn(0, 9);
        x.turnsOn(0, 3);
        x.unwraps(0, 2);
        x.unrolls(0, 3);
        x.unrolls(0, 4);
        x.joins(0, 0, 0);
        x.fills(0, 31, 1);
        x.fills(0, 4, 2);
        x.drills(0, 4);
        x.sees(2, -1);
        x.keep(2);
        x.back(0);
        Due.stands("after errors", x, 0, 0, 2, 396, 2, 1, 2, 1, 4, 1, 4, 1);
        Due.is("one to undo", x.count(3), 1);
        Due.is("no observation", x.count(1), 0);
        Due.is("undo", x.undo(), 0);
    }
}
