import java.util.List;
import java.util.function.Function;
import java.util.function.Supplier;
import java.util.function.ToLongFunction;

/**
 * The Terms, for promises 2 to 28: "A call that returns an error changes nothing". Of two objects that
 * were made by the same calls, one is asked what it refuses; then both have to answer the same. Calls
 * that only ask are among them, as they may change nothing either.
 */
public final class RefusedCallsTest {
    private static final int BAD = FibredSpaces.BAD;
    private static final int STATE = FibredSpaces.STATE;
    private static final int FULL = FibredSpaces.FULL;
    private static final int NONE = FibredSpaces.NONE;
    private static final long NO = FibredSpaces.NO;
    private static final int LEAST = Integer.MIN_VALUE;
    private static final int MOST = Integer.MAX_VALUE;

    /** What is asked of both objects; each on new ones, to stay below 512 calls. */
    private static final List<Function<FibredSpaces, String>> PROBES = List.of(
            RefusedCallsTest::answers, RefusedCallsTest::latestUndone, RefusedCallsTest::earliestUndone,
            RefusedCallsTest::images, RefusedCallsTest::goesOn);

    public static void main(String[] args) {
        everywhere(RefusedCallsTest::fewActions);
        everywhere(RefusedCallsTest::manyActions);
        onlyFewActions();
        onlyFull();
        onlyNew();
        askingChangesNothing(RefusedCallsTest::fewActions);
        askingChangesNothing(RefusedCallsTest::manyActions);
        Due.end();
    }

    /** Spaces at their limits, three actions to undo, one image, two observations, a text with a fault. */
    private static FibredSpaces fewActions() {
        FibredSpaces x = Scene.with("f2 1;", "n3;f3 1;f4 1;f5 1;f7 1;", "o3;f5 2;f7 3;", "f2 1;f3 1;f1 3;");
        Scene.move(x, 0, 999);
        x.keep(0);
        x.back(0);
        x.fills(4, 11, 3);
        x.mirrors(3);
        x.joins(5, 3, 4);
        x.sees(2, 1);
        x.sees(3, 1);
        Due.type(x, "n2;f6 5;f4");
        return x;
    }

    /** The same, but with six actions to undo, where one more would drive out the first. */
    private static FibredSpaces manyActions() {
        FibredSpaces x = fewActions();
        x.fills(4, 1, 2);
        x.fills(5, 1, -2);
        x.drills(5, 0);
        x.mirrors(4);
        return x;
    }

    /** A text of 100 bytes and six observations. */
    private static FibredSpaces fullOfAll() {
        FibredSpaces x = manyActions();
        x.clear();
        Due.type(x, "f9 4;" + " ".repeat(95));
        for (int k = 0; k < 4; k++) {
            x.sees(2, 1);
        }
        return x;
    }

    private static String answers(FibredSpaces x) {
        StringBuilder seen = new StringBuilder(Scene.shelf(x));
        for (int what = 0; what < 4; what++) {
            seen.append(" count ").append(x.count(what));
        }
        for (int i = 0; i < 6; i++) {
            seen.append(" euler ").append(x.euler(i, 0)).append(" over ").append(x.over(i, 0));
            seen.append(" order ").append(x.torsion(i, -1)).append(" threes ").append(x.threes(i));
        }
        seen.append(" which ").append(x.which()).append(" ask ").append(x.ask());
        return seen.toString();
    }

    private static String latestUndone(FibredSpaces x) {
        return undone(x, 3);
    }

    private static String earliestUndone(FibredSpaces x) {
        x.undo();
        x.undo();
        x.undo();
        return undone(x, 4);
    }

    private static String undone(FibredSpaces x, int times) {
        StringBuilder seen = new StringBuilder();
        for (int k = 0; k < times; k++) {
            seen.append(" undo ").append(x.undo()).append(' ').append(Scene.shelf(x));
        }
        return seen.toString();
    }

    private static String images(FibredSpaces x) {
        StringBuilder seen = new StringBuilder();
        for (int image = 0; image < 2; image++) {
            seen.append(" back ").append(x.back(image)).append(' ').append(Scene.shelf(x));
            seen.append(" undo ").append(x.undo());
        }
        return seen.toString();
    }

    /** The text is read, mended and read again; observations and actions are added. */
    private static String goesOn(FibredSpaces x) {
        StringBuilder seen = new StringBuilder();
        seen.append("tells ").append(x.tells(1)).append(" type ").append(x.type('-')).append(x.type('3'));
        seen.append(x.type(';')).append(" tells ").append(x.tells(1)).append(' ').append(Scene.shelf(x));
        seen.append(" clear ").append(x.clear()).append(" sees ").append(x.sees(5, 1)).append(x.which());
        seen.append(" forget ").append(x.forget()).append(" fills ").append(x.fills(1, 13, 5));
        seen.append(" keep ").append(x.keep(1)).append(' ').append(Scene.shelf(x)).append(x.count(3));
        return seen.toString();
    }

    private static void refused(String name, Supplier<FibredSpaces> scene, ToLongFunction<FibredSpaces> call, long error) {
        for (Function<FibredSpaces, String> probe : PROBES) {
            FibredSpaces asked = scene.get();
            for (int k = 0; k < 3; k++) {
                Due.is(name, call.applyAsLong(asked), error);
            }
            Due.same(name, probe.apply(asked), probe.apply(scene.get()));
        }
    }

    private static void everywhere(Supplier<FibredSpaces> scene) {
        for (int i : Scene.NO_SPACES) {
            noSuchSpace(scene, i);
        }
        wrongArguments(scene);
        for (int wrong : new int[] {-1, 2, LEAST, MOST}) {
            refused("promise 14: fibre, what " + wrong, scene, x -> x.fibre(0, 0, wrong), BAD);
            refused("promise 15: euler, part " + wrong, scene, x -> x.euler(0, wrong), NO);
            refused("promise 16: over, part " + wrong, scene, x -> x.over(0, wrong), NO);
            refused("promise 21: lens, what " + wrong, scene, x -> x.lens(0, wrong), BAD);
            refused("promise 26: keep " + wrong, scene, x -> x.keep(wrong), BAD);
            refused("promise 27: back " + wrong, scene, x -> x.back(wrong), BAD);
        }
        notPossibleNow(scene);
        noRoom(scene);
    }

    private static void noSuchSpace(Supplier<FibredSpaces> scene, int i) {
        refused("promise 4: tells, space " + i, scene, x -> x.tells(i), BAD);
        refused("promise 5: mirrors, space " + i, scene, x -> x.mirrors(i), BAD);
        refused("promise 6: joins, space " + i, scene, x -> x.joins(i, 3, 4), BAD);
        refused("promise 6: joins, with " + i, scene, x -> x.joins(3, i, 4), BAD);
        refused("promise 6: joins, and " + i, scene, x -> x.joins(3, 4, i), BAD);
        refused("promise 7: fills, space " + i, scene, x -> x.fills(i, 3, 1), BAD);
        refused("promise 8: drills, space " + i, scene, x -> x.drills(i, 0), BAD);
        refused("promise 9: turnsOn, space " + i, scene, x -> x.turnsOn(i, 2), BAD);
        refused("promise 10: unwraps, space " + i, scene, x -> x.unwraps(i, 2), BAD);
        refused("promise 11: unrolls, space " + i, scene, x -> x.unrolls(i, 2), BAD);
        refused("promise 13: space, space " + i, scene, x -> x.space(i, 0), NO);
        refused("promise 14: fibre, space " + i, scene, x -> x.fibre(i, 0, 0), BAD);
        refused("promise 15: euler, space " + i, scene, x -> x.euler(i, 0), NO);
        refused("promise 16: over, space " + i, scene, x -> x.over(i, 0), NO);
        refused("promise 17: like, space " + i, scene, x -> x.like(i, 0), BAD);
        refused("promise 17: like, with " + i, scene, x -> x.like(0, i), BAD);
        refused("promise 18: torsion, space " + i, scene, x -> x.torsion(i, 0), BAD);
        refused("promise 19: maps, space " + i, scene, x -> x.maps(i, 2), BAD);
        refused("promise 20: threes, space " + i, scene, x -> x.threes(i), BAD);
        refused("promise 21: lens, space " + i, scene, x -> x.lens(i, 0), BAD);
    }

    private static void wrongArguments(Supplier<FibredSpaces> scene) {
        for (int letter : new int[] {-1, 256, LEAST, MOST}) {
            refused("promise 2: type " + letter, scene, x -> x.type(letter), BAD);
        }
        for (int a : new int[] {0, 31, -1, LEAST, MOST}) {
            refused("promise 7: fills, A " + a, scene, x -> x.fills(3, a, 1), BAD);
        }
        for (int b : new int[] {-100, 100, LEAST, MOST}) {
            refused("promise 7: fills, B " + b, scene, x -> x.fills(3, 1, b), BAD);
        }
        refused("promise 7: fills, 2 and 0", scene, x -> x.fills(3, 2, 0), BAD);
        refused("promise 7: fills, 9 and -6", scene, x -> x.fills(3, 9, -6), BAD);
        for (int k : new int[] {-1, 1, LEAST, MOST}) {
            refused("promise 8: drills, fibre " + k, scene, x -> x.drills(0, k), BAD);
            refused("promise 14: fibre, fibre " + k, scene, x -> x.fibre(0, k, 0), BAD);
        }
        for (int m : new int[] {1, 10, LEAST, MOST}) {
            refused("promise 9: turnsOn " + m, scene, x -> x.turnsOn(3, m), BAD);
            refused("promise 10: unwraps " + m, scene, x -> x.unwraps(3, m), BAD);
        }
        for (int d : new int[] {1, 4, LEAST, MOST}) {
            refused("promise 11: unrolls " + d, scene, x -> x.unrolls(2, d), BAD);
        }
        for (int m : new int[] {1, 13, LEAST, MOST}) {
            refused("promise 19: maps " + m, scene, x -> x.maps(0, m), BAD);
            refused("promise 22: sees, m " + m, scene, x -> x.sees(m, 1), BAD);
        }
        for (int what : new int[] {-1, 7, LEAST, MOST}) {
            refused("promise 13: space, what " + what, scene, x -> x.space(0, what), NO);
        }
        for (int what : new int[] {-1, 4, LEAST, MOST}) {
            refused("promise 28: count " + what, scene, x -> x.count(what), BAD);
        }
        refused("promise 18: torsion -2", scene, x -> x.torsion(0, -2), BAD);
        refused("promise 18: torsion, least", scene, x -> x.torsion(0, LEAST), BAD);
        refused("promise 22: sees, v -1", scene, x -> x.sees(2, -1), BAD);
        refused("promise 22: sees, least v", scene, x -> x.sees(2, Long.MIN_VALUE), BAD);
    }

    private static void notPossibleNow(Supplier<FibredSpaces> scene) {
        refused("promise 4: tells, a fault", scene, x -> x.tells(3), -20);
        refused("promise 9: turnsOn, not coprime", scene, x -> x.turnsOn(3, 2), STATE);
        refused("promise 9: turnsOn, the last A is not coprime", scene, x -> x.turnsOn(1, 7), STATE);
        refused("promise 10: unwraps, not coprime", scene, x -> x.unwraps(3, 3), STATE);
        refused("promise 10: unwraps, not divisible", scene, x -> x.unwraps(0, 7), STATE);
        refused("promise 11: unrolls, kind 0 with genus 0", scene, x -> x.unrolls(3, 2), STATE);
        refused("promise 21: lens of kind 1", scene, x -> x.lens(1, 0), STATE);
        refused("promise 21: lens of genus 3", scene, x -> x.lens(2, 1), STATE);
        refused("promise 27: back, nothing saved", scene, x -> x.back(1), STATE);
        refused("promise 18: torsion, no such index", scene, x -> x.torsion(0, 7), NONE);
    }

    private static void noRoom(Supplier<FibredSpaces> scene) {
        refused("promise 5: mirrors to -1000", scene, x -> x.mirrors(0), FULL);
        refused("promise 6: joins, eight fibres", scene, x -> x.joins(3, 1, 1), FULL);
        refused("promise 6: joins, genus 6", scene, x -> x.joins(2, 2, 2), FULL);
        refused("promise 6: joins, genus 9", scene, x -> x.joins(4, 1, 2), FULL);
        refused("promise 6: joins, shift 1998", scene, x -> x.joins(4, 0, 0), FULL);
        refused("promise 7: fills to 1000", scene, x -> x.fills(0, 1, 1), FULL);
        refused("promise 7: fills a fibre to 1000", scene, x -> x.fills(0, 5, 6), FULL);
        refused("promise 9: turnsOn to 2997", scene, x -> x.turnsOn(0, 3), FULL);
        refused("promise 11: unrolls, eight fibres", scene, x -> x.unrolls(1, 2), FULL);
        refused("promise 11: unrolls, genus 5", scene, x -> x.unrolls(2, 2), FULL);
    }

    /** Two candidates or more are left in the other scene. */
    private static void onlyFewActions() {
        Supplier<FibredSpaces> oneCandidate = () -> {
            FibredSpaces x = fewActions();
            x.sees(5, 1);
            x.sees(5, 2);
            return x;
        };
        refused("promise 25: ask, no candidate", oneCandidate, x -> x.ask(), NONE);
        Supplier<FibredSpaces> smallGenus = () -> {
            FibredSpaces x = fewActions();
            Due.tell(x, 4, "n1;f2 1;", 2);
            Due.type(x, "o1;o1;");
            return x;
        };
        refused("promise 11: unrolls, kind 1 with genus 1", smallGenus, x -> x.unrolls(4, 2), STATE);
        refused("promise 4: tells, a second base", smallGenus, x -> x.tells(4), -13);
        Supplier<FibredSpaces> sixFibres = () -> {
            FibredSpaces x = fewActions();
            x.fills(1, 13, 1);
            x.fills(1, 14, 1);
            return x;
        };
        refused("promise 7: fills, a seventh fibre", sixFibres, x -> x.fills(1, 2, 1), FULL);
        refused("promise 7: fills, a seventh fibre", sixFibres, x -> x.fills(1, 30, 29), FULL);
        refused("promise 6: joins, a seventh fibre", sixFibres, x -> x.joins(1, 1, 4), FULL);
    }

    private static void onlyFull() {
        refused("promise 2: type of byte 101", RefusedCallsTest::fullOfAll, x -> x.type(';'), FULL);
        refused("promise 2: type of byte 101", RefusedCallsTest::fullOfAll, x -> x.type(0), FULL);
        refused("promise 22: a seventh observation", RefusedCallsTest::fullOfAll, x -> x.sees(2, 1), FULL);
        refused("promise 22: a seventh observation", RefusedCallsTest::fullOfAll, x -> x.sees(12, 0), FULL);
    }

    private static void onlyNew() {
        refused("promise 12: undo of nothing", FibredSpaces::new, x -> x.undo(), STATE);
        refused("promise 27: back of nothing", FibredSpaces::new, x -> x.back(0), STATE);
        Supplier<FibredSpaces> restored = () -> {
            FibredSpaces x = manyActions();
            x.back(0);
            return x;
        };
        refused("promise 12: undo behind back", restored, x -> x.undo(), STATE);
        Supplier<FibredSpaces> allUndone = () -> {
            FibredSpaces x = manyActions();
            for (int k = 0; k < 6; k++) {
                x.undo();
            }
            return x;
        };
        refused("promise 12: a seventh undo", allUndone, x -> x.undo(), STATE);
    }

    private static void askingChangesNothing(Supplier<FibredSpaces> scene) {
        FibredSpaces twice = scene.get();
        Due.same("the same answers twice", answers(twice), answers(twice));
        for (Function<FibredSpaces, String> probe : PROBES) {
            FibredSpaces asked = scene.get();
            for (int i = 0; i < 6; i++) {
                asked.like(i, 5 - i);
                asked.lens(i, 1);
                asked.maps(i, 6);
                asked.threes(i);
                asked.euler(i, 0);
                asked.space(i, 5);
            }
            asked.which();
            asked.ask();
            Due.same("asking", probe.apply(asked), probe.apply(scene.get()));
        }
    }
}
