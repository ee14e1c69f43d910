/** The three examples of the document. */
public final class ExamplesTest {
    public static void main(String[] args) {
        threeFibres();
        notOrientable();
        errors();
        Due.end();
    }

    private static void threeFibres() {
        FibredSpaces x = new FibredSpaces();
        Due.is("1: fills(0,2,1)", x.fills(0, 2, 1), 1);
        Due.is("1: fills(0,3,-1)", x.fills(0, 3, -1), 2);
        Due.is("1: fills(0,5,6)", x.fills(0, 5, 6), 3);
        Due.is("1: space(0,2)", x.space(0, 2), 0);
        Due.is("1: euler(0,0)", x.euler(0, 0), -41);
        Due.is("1: euler(0,1)", x.euler(0, 1), 30);
        Due.is("1: over(0,0)", x.over(0, 0), 1);
        Due.is("1: space(0,6)", x.space(0, 6), 3);
        Due.is("1: torsion(0,-1)", x.torsion(0, -1), 41);
        Due.is("1: maps(0,6)", x.maps(0, 6), 1);
        Due.is("1: threes(0)", x.threes(0), 1);
        Due.is("1: lens(0,0)", x.lens(0, 0), -2);
        Due.is("1: mirrors(0)", x.mirrors(0), 0);
        Due.is("1: like(0,1)", x.like(0, 1), 0);
        Due.is("1: drills(0,2)", x.drills(0, 2), 2);
        Due.is("1: lens(0,1)", x.lens(0, 1), 5);
    }

    private static void notOrientable() {
        FibredSpaces x = new FibredSpaces();
        int[] letters = {110, 49, 59, 102, 49, 45, 51, 59};
        for (int k = 0; k < letters.length; k++) {
            Due.is("2: type(" + letters[k] + ")", x.type(letters[k]), k + 1);
        }
        Due.is("2: tells(2)", x.tells(2), 2);
        Due.is("2: space(2,2)", x.space(2, 2), -3);
        Due.is("2: space(2,4)", x.space(2, 4), 0);
        Due.is("2: torsion(2,0)", x.torsion(2, 0), 4);
        Due.is("2: unrolls(2,2)", x.unrolls(2, 2), -2);
        Due.is("2: joins(3,2,2)", x.joins(3, 2, 2), 0);
        Due.is("2: turnsOn(3,2)", x.turnsOn(3, 2), 1);
        Due.is("2: unwraps(3,4)", x.unwraps(3, 4), 1);
    }

    private static void errors() {
        FibredSpaces x = new FibredSpaces();
        int[] letters = {102, 52, 32, 54, 59};
        for (int k = 0; k < letters.length; k++) {
            Due.is("3: type(" + letters[k] + ")", x.type(letters[k]), k + 1);
        }
        Due.is("3: tells(0)", x.tells(0), -13);
        Due.is("3: clear()", x.clear(), 5);
        Due.is("3: tells(6)", x.tells(6), -1);
        Due.is("3: tells(5)", x.tells(5), 0);
        Due.is("3: fills(0,2,0)", x.fills(0, 2, 0), -1);
        Due.is("3: sees(5,1)", x.sees(5, 1), 1);
        Due.is("3: which()", x.which(), 0);
        Due.is("3: ask()", x.ask(), -9);
        Due.is("3: undo()", x.undo(), 0);
        Due.is("3: undo()", x.undo(), -2);
        Due.is("3: back(0)", x.back(0), -2);
    }
}
