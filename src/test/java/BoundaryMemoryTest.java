/**
 * Promises 22 to 28: a method for each sentence that names a boundary of the observations, the images
 * and the counts, with the input just inside and the one just outside.
 */
public final class BoundaryMemoryTest {
    private static final int BAD = FibredSpaces.BAD;
    private static final int STATE = FibredSpaces.STATE;
    private static final int FULL = FibredSpaces.FULL;
    private static final int NONE = FibredSpaces.NONE;
    private static final String SIX_HALVES = "f2 1;f2 1;f2 1;f2 1;f2 1;f2 1;";
    private static final int[] NO_IMAGES = {-1, 2, Integer.MIN_VALUE, Integer.MAX_VALUE};

    public static void main(String[] args) {
        observing();
        asking();
        images();
        counts();
        Due.end();
    }

    private static void observing() {
        promise22Orders();
        promise22Numbers();
        promise22LongNumbers();
        promise22SixObservations();
        promise22BadBeforeFull();
        promise23HowMany();
        promise23RoomAgain();
        promise24NoObservations();
        promise24FirstAndLastBit();
        promise24AllAreTrue();
        promise24NoCandidate();
        promise24PresentShelf();
    }

    private static void asking() {
        promise25FewerThanTwo();
        promise25TwoCandidates();
        promise25LeastAndGreatestOrder();
        promise25FiveOfSix();
        promise25LeastOfSeveral();
        promise25CandidatesAlone();
    }

    private static void images() {
        promise26Images();
        promise26Fibres();
        promise26InPlaceOfWhatItHad();
        promise26IsNoAction();
        promise27Images();
        promise27NothingSaved();
        promise27BadBeforeState();
        promise27ImageStays();
        promise27NothingCanBeUndone();
        promise27TheShelfAlone();
    }

    private static void counts() {
        promise28Numbers();
        promise28Fibres();
        promise28Observations();
        promise28Text();
        promise28Actions();
    }

    /** Promise 22: the order, 2 to 12. */
    private static void promise22Orders() {
        FibredSpaces x = new FibredSpaces();
        for (int m : new int[] {1, 13, 0, -2, Integer.MIN_VALUE, Integer.MAX_VALUE}) {
            Due.is("sees(" + m + ",1)", x.sees(m, 1), BAD);
            Due.is("no observation", x.count(1), 0);
            Due.is("all are candidates", x.which(), 63);
        }
        Due.is("sees(2,2)", x.sees(2, 2), 1);
        Due.is("which", x.which(), 63);
        Due.is("sees(12,12)", x.sees(12, 12), 2);
        Due.is("which", x.which(), 63);
    }

    /** Promise 22: the number, 0 or more; BAD if v is negative. */
    private static void promise22Numbers() {
        FibredSpaces x = new FibredSpaces();
        Due.is("v = -1", x.sees(2, -1), BAD);
        Due.is("v = least", x.sees(2, Long.MIN_VALUE), BAD);
        Due.is("v = NO", x.sees(2, FibredSpaces.NO), BAD);
        Due.is("no observation", x.count(1), 0);
        Due.is("all are candidates", x.which(), 63);
        Due.is("v = 0", x.sees(2, 0), 1);
        Due.is("no space has 0 maps", x.which(), 0);
        x.forget();
        Due.is("v = greatest", x.sees(2, Long.MAX_VALUE), 1);
        Due.is("no space has so many", x.which(), 0);
    }

    /** Promise 22: v is a long; numbers with the same lowest 32 bits are different. */
    private static void promise22LongNumbers() {
        FibredSpaces x = Scene.with("o4;");
        Due.is("12 to the 9", x.sees(12, 5159780352L), 1);
        Due.is("which", x.which(), 1);
        x.forget();
        Due.is("its lowest bits", x.sees(12, 5159780352L - 4294967296L), 1);
        Due.is("which", x.which(), 0);
        x.forget();
        Due.is("with higher bits", x.sees(12, 12 + 4294967296L), 1);
        Due.is("which", x.which(), 0);
    }

    /** Promise 22: there can be 6 observations; FULL if there are 6, and the seventh is not one. */
    private static void promise22SixObservations() {
        FibredSpaces x = new FibredSpaces();
        for (int k = 1; k <= 6; k++) {
            Due.is("the same again counts", x.sees(2, 2), k);
        }
        Due.is("a seventh", x.sees(2, 2), FULL);
        Due.is("a seventh that is not true", x.sees(3, 1), FULL);
        Due.is("six", x.count(1), 6);
        Due.is("which", x.which(), 63);
    }

    /** Promise 22, and the order of the errors: BAD before FULL. */
    private static void promise22BadBeforeFull() {
        FibredSpaces x = new FibredSpaces();
        for (int k = 1; k <= 6; k++) {
            x.sees(2, 2);
        }
        Due.is("m = 1", x.sees(1, 2), BAD);
        Due.is("m = 13", x.sees(13, 2), BAD);
        Due.is("v = -1", x.sees(2, -1), BAD);
        Due.is("v = 0", x.sees(2, 0), FULL);
    }

    /** Promise 23: returns how many there were: none, one or six. */
    private static void promise23HowMany() {
        FibredSpaces x = new FibredSpaces();
        Due.is("none", x.forget(), 0);
        x.sees(2, 1);
        Due.is("one", x.forget(), 1);
        Due.is("none again", x.forget(), 0);
        for (int k = 0; k < 8; k++) {
            x.sees(2, 1);
        }
        Due.is("six", x.forget(), 6);
        Due.is("none again", x.count(1), 0);
    }

    /** Promise 23: removes all observations, so there is room for six again and none of the old counts. */
    private static void promise23RoomAgain() {
        FibredSpaces x = new FibredSpaces();
        for (int k = 0; k < 6; k++) {
            x.sees(2, 1);
        }
        Due.is("which", x.which(), 0);
        x.forget();
        Due.is("which", x.which(), 63);
        for (int k = 1; k <= 6; k++) {
            Due.is("sees", x.sees(3, 3), k);
            Due.is("which", x.which(), 63);
        }
        Due.is("full", x.sees(3, 3), FULL);
    }

    /** Promise 24: without observations all spaces are candidates. */
    private static void promise24NoObservations() {
        Due.is("new", new FibredSpaces().which(), 63);
        Due.is("different spaces", Scene.with("f1 2;", "n1;", "o4;", "f1 5;", "f2 1;", "n4;").which(), 63);
    }

    /** Promise 24: bit i for space i. */
    private static void promise24FirstAndLastBit() {
        for (int i = 0; i < 6; i++) {
            FibredSpaces x = new FibredSpaces();
            x.fills(i, 1, 7);
            x.sees(2, 1);
            Due.is("space " + i, x.which(), 1 << i);
            x.forget();
            x.sees(2, 2);
            Due.is("all but space " + i, x.which(), 63 - (1 << i));
        }
    }

    /** Promise 24: all observations, the first and the sixth, too. */
    private static void promise24AllAreTrue() {
        for (int wrong = 0; wrong < 6; wrong++) {
            FibredSpaces x = new FibredSpaces();
            for (int k = 0; k < 6; k++) {
                x.sees(2 + k, k == wrong ? 1 : 2 + k);
            }
            Due.is("observation " + wrong + " is not true", x.which(), 0);
        }
    }

    /** Promise 24: perhaps there is no candidate. */
    private static void promise24NoCandidate() {
        FibredSpaces x = Scene.with("f1 2;");
        x.sees(2, 2);
        Due.is("which", x.which(), 63);
        x.sees(3, 1);
        Due.is("which", x.which(), 1);
        x.sees(3, 3);
        Due.is("which", x.which(), 0);
    }

    /** Promise 24: the present shelf, behind actions, undo() and back(). */
    private static void promise24PresentShelf() {
        FibredSpaces x = new FibredSpaces();
        x.keep(0);
        x.sees(2, 1);
        Due.is("none", x.which(), 0);
        x.fills(5, 1, 1);
        Due.is("space 5", x.which(), 32);
        x.fills(0, 1, 3);
        Due.is("0 and 5", x.which(), 33);
        x.undo();
        Due.is("space 5", x.which(), 32);
        x.back(0);
        Due.is("none", x.which(), 0);
    }

    /** Promise 25: NONE if there are fewer than two candidates. */
    private static void promise25FewerThanTwo() {
        FibredSpaces x = Scene.with("f1 2;", "f1 2;", "f1 3;", "f1 1;", "f1 1;", "f1 1;");
        x.sees(3, 3);
        Due.is("one", x.which(), 4);
        Due.is("one", x.ask(), NONE);
        x.sees(3, 1);
        Due.is("no", x.which(), 0);
        Due.is("no", x.ask(), NONE);
        x.forget();
        x.sees(2, 2);
        Due.is("two", x.which(), 3);
        Due.is("two", x.ask(), 2);
    }

    /** Promise 25: two candidates that differ, the first and the last space of the shelf. */
    private static void promise25TwoCandidates() {
        FibredSpaces x = Scene.with("f1 22;", "f1 1;", "f1 1;", "f1 1;", "f1 1;", "f1 2;");
        x.sees(2, 2);
        Due.is("two", x.which(), 33);
        Due.is("they differ for 11", x.ask(), 11);
    }

    /** Promise 25: the m from 2 to 12. */
    private static void promise25LeastAndGreatestOrder() {
        Due.is("2", Scene.with("f1 1;", "f1 2;", "f1 1;", "f1 2;", "f1 1;", "f1 2;").ask(), 2);
        Due.is("12", Scene.with("f1 1;", "f1 2;", "f1 3;", "f1 4;", "f1 6;", "f1 12;").ask(), 12);
        Due.is("11", Scene.with("f1 11;", "f1 11;", "f1 11;", "f1 1;", "f1 1;", "f1 1;").ask(), 11);
        // 13 would tell them apart, but is no order to ask for
        Due.is("none tells", Scene.with("f1 13;", "f1 13;", "f1 13;", "f1 1;", "f1 1;", "f1 1;").ask(), 2);
    }

    /** Promise 25: an order that tells only one of six from the others is better than none. */
    private static void promise25FiveOfSix() {
        Due.is("the first", Scene.with("f1 11;", "f1 1;", "f1 1;", "f1 1;", "f1 1;", "f1 1;").ask(), 11);
        Due.is("the last", Scene.with("f1 1;", "f1 1;", "f1 1;", "f1 1;", "f1 1;", "f1 11;").ask(), 11);
        Due.is("none", Scene.with("f1 1;", "f1 1;", "f1 1;", "f1 1;", "f1 1;", "f1 1;").ask(), 2);
    }

    /** Promise 25: the least one of several. */
    private static void promise25LeastOfSeveral() {
        Due.is("all alike", new FibredSpaces().ask(), 2);
        Due.is("5 and 10", Scene.with("f1 5;", "f1 5;", "f1 5;", "f1 1;", "f1 1;", "f1 1;").ask(), 5);
        Due.is("3, 6, 9 and 12", Scene.with("f1 3;", "f1 3;", "f1 3;", "f1 1;", "f1 1;", "f1 1;").ask(), 3);
        Due.is("4, 8 and 12", Scene.with("f1 4;", "f1 4;", "f1 2;", "f1 2;", "f1 1;", "f1 1;").ask(), 4);
        Due.is("7 by 3 and 3", Scene.with("f1 7;", "f1 7;", "f1 7;", "f1 11;", "f1 1;", "f1 1;").ask(), 7);
    }

    /** Promise 25: the greatest number of candidates; the other spaces do not count. */
    private static void promise25CandidatesAlone() {
        FibredSpaces x = Scene.with("f1 7;", "f1 7;", "f1 7;", "f1 11;", "f1 1;", "f1 1;");
        x.sees(7, 1);
        Due.is("three", x.which(), 56);
        Due.is("11", x.ask(), 11);
        x.forget();
        x.sees(7, 7);
        Due.is("three alike", x.ask(), 2);
    }

    /** Promise 26: the image, 0 or 1. */
    private static void promise26Images() {
        FibredSpaces x = Scene.with("f2 1;");
        for (int image : NO_IMAGES) {
            Due.is("keep(" + image + ")", x.keep(image), BAD);
        }
        Due.is("nothing was saved in 0", x.back(0), STATE);
        Due.is("nothing was saved in 1", x.back(1), STATE);
        Due.is("keep(0)", x.keep(0), 1);
        Due.is("keep(1)", x.keep(1), 1);
        Due.is("back(0)", x.back(0), 1);
        Due.is("back(1)", x.back(1), 1);
    }

    /** Promise 26: returns the number of fibres of all spaces, none to 36. */
    private static void promise26Fibres() {
        Due.is("none", new FibredSpaces().keep(0), 0);
        FibredSpaces x = Scene.with(SIX_HALVES, SIX_HALVES, SIX_HALVES, SIX_HALVES, SIX_HALVES, SIX_HALVES);
        Due.is("36", x.keep(1), 36);
        String before = Scene.shelf(x);
        x.drills(5, 5);
        x.drills(0, 0);
        Due.is("34", x.keep(0), 34);
        Due.is("back to 36", x.back(1), 36);
        Due.same("all fibres", Scene.shelf(x), before);
    }

    /** Promise 26: saves the shelf in place of what the image had. */
    private static void promise26InPlaceOfWhatItHad() {
        FibredSpaces x = Scene.with("f2 1;f3 1;");
        x.keep(0);
        x.keep(1);
        x.drills(0, 0);
        Due.is("keep(0) again", x.keep(0), 1);
        x.drills(0, 0);
        Due.is("back(0)", x.back(0), 1);
        Due.stands("the new one", x, 0, 0, 0, 0, 3, 1);
        Due.is("back(1)", x.back(1), 2);
        Due.stands("the other stays", x, 0, 0, 0, 0, 2, 1, 3, 1);
    }

    /** Promise 26: keep() is none of the actions; what can be undone stays. */
    private static void promise26IsNoAction() {
        FibredSpaces x = Scene.with("f2 1;");
        x.keep(0);
        Due.is("count", x.count(3), 1);
        Due.is("undo", x.undo(), 0);
        Due.is("no fibre", x.count(0), 0);
        Due.is("the image has it", x.back(0), 1);
    }

    /** Promise 27: BAD if there is no such image. */
    private static void promise27Images() {
        FibredSpaces x = Scene.with("f2 1;");
        x.keep(0);
        x.keep(1);
        x.drills(0, 0);
        for (int image : NO_IMAGES) {
            Due.is("back(" + image + ")", x.back(image), BAD);
        }
        Due.is("the shelf stays", x.count(0), 0);
        Due.is("what can be undone stays", x.count(3), 2);
        Due.is("back(0)", x.back(0), 1);
        Due.is("back(1)", x.back(1), 1);
    }

    /** Promise 27: STATE if nothing was saved in it; then nothing changes. */
    private static void promise27NothingSaved() {
        FibredSpaces x = Scene.with("f2 1;");
        Due.is("back(0)", x.back(0), STATE);
        Due.is("back(1)", x.back(1), STATE);
        Due.stands("the shelf stays", x, 0, 0, 0, 0, 2, 1);
        Due.is("what can be undone stays", x.count(3), 1);
        x.keep(1);
        Due.is("the other image", x.back(0), STATE);
        Due.is("undo", x.undo(), 0);
        Due.is("the saved one", x.back(1), 1);
        Due.is("the other image still", x.back(0), STATE);
    }

    /** Promise 27, and the order of the errors: BAD before STATE. */
    private static void promise27BadBeforeState() {
        FibredSpaces x = new FibredSpaces();
        Due.is("back(2)", x.back(2), BAD);
        Due.is("back(-1)", x.back(-1), BAD);
        Due.is("back(1)", x.back(1), STATE);
    }

    /** Promise 27: the image stays, whatever is done to the shelf. */
    private static void promise27ImageStays() {
        FibredSpaces x = Scene.with("n1;f5 2;", "", "", "", "", "o3;f1 4;");
        x.keep(1);
        String before = Scene.shelf(x);
        for (int k = 0; k < 2; k++) {
            x.drills(0, 0);
            x.mirrors(5);
            Due.is("back", x.back(1), 1);
            Due.same("back", Scene.shelf(x), before);
        }
        Due.is("back without a change", x.back(1), 1);
        Due.same("back without a change", Scene.shelf(x), before);
    }

    /** Promise 27: nothing can be undone then; later actions can. */
    private static void promise27NothingCanBeUndone() {
        FibredSpaces x = new FibredSpaces();
        x.keep(0);
        for (int k = 0; k < 7; k++) {
            x.fills(0, 1, 1);
        }
        Due.is("six before", x.count(3), 6);
        Due.is("back", x.back(0), 0);
        Due.is("none behind", x.count(3), 0);
        Due.is("undo", x.undo(), STATE);
        Due.stands("the image", x, 0, 0, 0, 0);
        x.fills(0, 1, 5);
        Due.is("undo", x.undo(), 0);
        Due.stands("the image again", x, 0, 0, 0, 0);
        Due.is("no more", x.undo(), STATE);
    }

    /** Promise 27: restores the shelf; text and observations are not on it. */
    private static void promise27TheShelfAlone() {
        FibredSpaces x = new FibredSpaces();
        x.keep(0);
        Due.type(x, "f2 1;");
        x.sees(2, 2);
        Due.is("back", x.back(0), 0);
        Due.is("observations", x.count(1), 1);
        Due.is("text", x.count(2), 5);
        Due.is("tells", x.tells(0), 1);
    }

    /** Promise 28: BAD if what is not 0 to 3. */
    private static void promise28Numbers() {
        FibredSpaces x = Scene.with("f2 1;f3 1;f5 1;f7 1;");
        Due.type(x, "o1;");
        x.sees(2, 1);
        x.sees(2, 1);
        int[] due = {4, 2, 3, 1};
        for (int what = 0; what <= 3; what++) {
            Due.is("count(" + what + ")", x.count(what), due[what]);
        }
        for (int what : new int[] {-1, 4, Integer.MIN_VALUE, Integer.MAX_VALUE}) {
            Due.is("count(" + what + ")", x.count(what), BAD);
        }
    }

    /** Promise 28: fibres of all spaces, none to 36. */
    private static void promise28Fibres() {
        FibredSpaces x = new FibredSpaces();
        Due.is("none", x.count(0), 0);
        for (int k = 0; k < 36; k++) {
            x.fills(k / 6, 2, 1);
            Due.is("fibres", x.count(0), k + 1);
        }
        Due.is("no more", x.fills(5, 2, 1), FULL);
        Due.is("36", x.count(0), 36);
        x.undo();
        Due.is("35", x.count(0), 35);
    }

    /** Promise 28: observations, none to 6. */
    private static void promise28Observations() {
        FibredSpaces x = new FibredSpaces();
        for (int k = 0; k < 8; k++) {
            Due.is("observations", x.count(1), Math.min(k, 6));
            x.sees(2, 1);
        }
    }

    /** Promise 28: the length of the text, 0 to 100. */
    private static void promise28Text() {
        FibredSpaces x = new FibredSpaces();
        for (int k = 0; k < 102; k++) {
            Due.is("length", x.count(2), Math.min(k, 100));
            x.type(';');
        }
    }

    /** Promise 28: how many actions can be undone, 0 to 6. */
    private static void promise28Actions() {
        FibredSpaces x = new FibredSpaces();
        for (int k = 0; k < 8; k++) {
            Due.is("actions", x.count(3), Math.min(k, 6));
            x.fills(0, 1, 1);
        }
        for (int k = 6; k >= 0; k--) {
            Due.is("actions", x.count(3), k);
            x.undo();
        }
        Due.is("actions", x.count(3), 0);
    }
}
