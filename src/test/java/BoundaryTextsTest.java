/**
 * Promises 1 to 4, and what the document's Terms say of a text: a method for each sentence that names
 * a boundary, with the input just inside and the one just outside.
 */
public final class BoundaryTextsTest {
    private static final int BAD = FibredSpaces.BAD;
    private static final int STATE = FibredSpaces.STATE;
    private static final int FULL = FibredSpaces.FULL;

    public static void main(String[] args) {
        promise1NewShelf();
        promise1EmptyText();
        promise1NoObservations();
        promise1NoImages();
        promise1NothingToUndo();
        promise1ObjectsAreApart();
        promise1LastOf512Calls();
        promise2Letters();
        promise2LettersDoNotWrap();
        promise2FullText();
        promise2RoomAgain();
        promise2BadBeforeFull();
        promise3Lengths();
        promise3IsNoAction();
        promise4Spaces();
        promise4Items();
        promise4LeastAndGreatestFault();
        promise4FaultLeavesAll();
        promise4BadLeavesTheText();
        promise4BadBeforeFault();
        promise4EmptiesTheText();
        promise4EmptyTextIsAnAction();
        promise4GenusOfKind0();
        promise4GenusOfKind1();
        promise4BaseIsFirst();
        promise4RangeOfA();
        promise4RangeOfB();
        promise4Coprime();
        promise4EightPairs();
        promise4SixFibres();
        promise4NinthPairBeforeSeventhFibre();
        promise4Normalizes();
        promise4Sorts();
        promise4GreatestShift();
        promise4Blanks();
        promise4LongestDigits();
        promise4NumbersAbove99();
        promise4NumbersDoNotWrap();
        promise4ZerosAhead();
        promise4EndsTooEarly();
        promise4OtherBytes();
        promise4OtherBytesInEveryPlace();
        promise4TokensOutOfPlace();
        promise4FirstFaultCounts();
        Due.end();
    }

    private static void right(String text, int items, int kind, int genus, int shift, int... fibres) {
        FibredSpaces x = new FibredSpaces();
        Due.type(x, text);
        Due.is("tells of '" + text + "'", x.tells(3), items);
        Due.stands("'" + text + "'", x, 3, kind, genus, shift, fibres);
    }

    private static void fault(String text, int fault) {
        FibredSpaces x = new FibredSpaces();
        Due.type(x, text);
        Due.is("fault of '" + text + "'", x.tells(3), -10 - fault);
        Due.is("the text stays, '" + text + "'", x.count(2), text.length());
        Due.stands("after the fault of '" + text + "'", x, 3, 0, 0, 0);
    }

    /** Promise 1: at first each space has a base of kind 0 with genus 0, the shift 0 and no fibres. */
    private static void promise1NewShelf() {
        FibredSpaces x = new FibredSpaces();
        for (int i = 0; i < 6; i++) {
            Due.stands("new", x, i, 0, 0, 0);
            Due.is("no fibre 0 in space " + i, x.fibre(i, 0, 0), BAD);
        }
        Due.is("no space -1", x.space(-1, 0), FibredSpaces.NO);
        Due.is("no space 6", x.space(6, 0), FibredSpaces.NO);
        Due.is("no fibres", x.count(0), 0);
    }

    /** Promise 1: an empty text. */
    private static void promise1EmptyText() {
        Due.is("length", new FibredSpaces().count(2), 0);
        Due.is("clear", new FibredSpaces().clear(), 0);
        Due.is("tells", new FibredSpaces().tells(0), 0);
        Due.is("type", new FibredSpaces().type(59), 1);
    }

    /** Promise 1: no observations. */
    private static void promise1NoObservations() {
        Due.is("count", new FibredSpaces().count(1), 0);
        Due.is("forget", new FibredSpaces().forget(), 0);
        Due.is("which", new FibredSpaces().which(), 63);
        Due.is("sees", new FibredSpaces().sees(2, 2), 1);
    }

    /** Promise 1: no images. */
    private static void promise1NoImages() {
        FibredSpaces x = new FibredSpaces();
        Due.is("back(0)", x.back(0), STATE);
        Due.is("back(1)", x.back(1), STATE);
    }

    /** Promises 1 and 12: nothing can be undone in a new object. */
    private static void promise1NothingToUndo() {
        FibredSpaces x = new FibredSpaces();
        Due.is("count", x.count(3), 0);
        Due.is("undo", x.undo(), STATE);
    }

    /** Promise 1: what is done to one object is not seen in another. */
    private static void promise1ObjectsAreApart() {
        FibredSpaces x = new FibredSpaces();
        FibredSpaces y = new FibredSpaces();
        x.fills(0, 3, 1);
        x.type(59);
        x.sees(2, 1);
        x.keep(0);
        for (int what = 0; what < 4; what++) {
            Due.is("count(" + what + ") of the other", y.count(what), 0);
        }
        Due.is("image of the other", y.back(0), STATE);
        Due.stands("the other", y, 0, 0, 0, 0);
    }

    /** What it is: an object is used for at most 512 calls; the last of them answers as the first. */
    private static void promise1LastOf512Calls() {
        FibredSpaces x = new FibredSpaces();
        for (int k = 0; k < 255; k++) {
            Due.is("there", x.fills(0, 1, 99), 0);
            Due.is("and back", x.fills(0, 1, -99), 0);
        }
        Due.is("call 511", x.space(0, 2), 0);
        Due.is("call 512", x.undo(), 5);
    }

    /** Promise 2: the byte, 0 to 255; BAD if letter is out of range. */
    private static void promise2Letters() {
        FibredSpaces x = new FibredSpaces();
        Due.is("type(-1)", x.type(-1), BAD);
        Due.is("type(256)", x.type(256), BAD);
        Due.is("length after them", x.count(2), 0);
        Due.is("type(0)", x.type(0), 1);
        Due.is("type(255)", x.type(255), 2);
        Due.is("type(-1) behind", x.type(-1), BAD);
        Due.is("type(256) behind", x.type(256), BAD);
        Due.is("length after them", x.count(2), 2);
    }

    /** Promise 2: a number whose lowest eight bits are a letter is no letter. */
    private static void promise2LettersDoNotWrap() {
        FibredSpaces x = new FibredSpaces();
        for (int far : new int[] {256 + ';', ';' - 256, 65536 + ';', Integer.MIN_VALUE + ';', Integer.MIN_VALUE,
            Integer.MAX_VALUE}) {
            Due.is("type(" + far + ")", x.type(far), BAD);
        }
        Due.is("nothing was typed", x.tells(0), 0);
    }

    /** Promise 2: FULL if the text has 100 bytes; the refused byte is not in the text. */
    private static void promise2FullText() {
        FibredSpaces x = new FibredSpaces();
        Due.type(x, " ".repeat(94) + "f2 1;");
        Due.is("99 bytes", x.count(2), 99);
        Due.is("byte 100", x.type(' '), 100);
        Due.is("byte 101", x.type('x'), FULL);
        Due.is("byte 101 again", x.type('x'), FULL);
        Due.is("100 bytes", x.count(2), 100);
        Due.is("a text of 100 bytes is read", x.tells(0), 1);
        Due.stands("100 bytes", x, 0, 0, 0, 0, 2, 1);
    }

    /** Promises 2 to 4: behind clear() and tells() a full text has room for 100 bytes again. */
    private static void promise2RoomAgain() {
        FibredSpaces x = new FibredSpaces();
        Due.type(x, "x".repeat(100));
        Due.is("clear", x.clear(), 100);
        Due.type(x, " ".repeat(100));
        Due.is("tells", x.tells(0), 0);
        Due.type(x, " ".repeat(100));
        Due.is("full", x.type(' '), FULL);
    }

    /** Promise 2, and the order of the errors: BAD before FULL. */
    private static void promise2BadBeforeFull() {
        FibredSpaces x = new FibredSpaces();
        Due.type(x, " ".repeat(100));
        Due.is("type(-1)", x.type(-1), BAD);
        Due.is("type(256)", x.type(256), BAD);
        Due.is("type(255)", x.type(255), FULL);
        Due.is("type(0)", x.type(0), FULL);
    }

    /** Promise 3: returns the length that the text had: 0, 1 or 100. */
    private static void promise3Lengths() {
        FibredSpaces x = new FibredSpaces();
        Due.is("empty", x.clear(), 0);
        x.type('f');
        Due.is("one byte", x.clear(), 1);
        Due.is("empty again", x.clear(), 0);
        Due.type(x, "f".repeat(100));
        Due.is("100 bytes", x.clear(), 100);
        Due.is("empty again", x.count(2), 0);
        Due.is("what was typed is gone", x.tells(0), 0);
    }

    /** Promise 3: clear() is none of the actions, and the shelf stays. */
    private static void promise3IsNoAction() {
        FibredSpaces x = Scene.with("n2;f3 1;");
        x.type('f');
        x.clear();
        Due.is("undo", x.count(3), 1);
        Due.stands("shelf", x, 0, 1, 2, 0, 3, 1);
        Due.is("undo leaves the text empty", x.undo(), 0);
        Due.is("text", x.count(2), 0);
    }

    /** Promise 4: the space, 0 to 5; BAD if there is no such space. */
    private static void promise4Spaces() {
        for (int i = 0; i < 6; i++) {
            FibredSpaces x = new FibredSpaces();
            Due.type(x, "n1;");
            Due.is("tells(" + i + ")", x.tells(i), 1);
            for (int j = 0; j < 6; j++) {
                Due.stands("tells(" + i + ")", x, j, i == j ? 1 : 0, i == j ? 1 : 0, 0);
            }
        }
        for (int i : Scene.NO_SPACES) {
            FibredSpaces x = new FibredSpaces();
            Due.type(x, "n1;");
            Due.is("tells(" + i + ")", x.tells(i), BAD);
            Due.is("nothing to undo", x.count(3), 0);
        }
    }

    /** Promise 4: returns the number of items, from none to one base and eight pairs. */
    private static void promise4Items() {
        right("", 0, 0, 0, 0);
        right("o0;", 1, 0, 0, 0);
        right("f1 0;", 1, 0, 0, 0);
        right("n1;" + "f1 1;".repeat(7), 8, 1, 1, 7);
        right("n1;" + "f1 1;".repeat(8), 9, 1, 1, 8);
    }

    /** Promise 4: -10 minus the fault, which is at least 0 and at most the length of 100. */
    private static void promise4LeastAndGreatestFault() {
        fault("x", 0);
        fault(" x", 1);
        fault(" ".repeat(99) + "x", 99);
        fault(" ".repeat(99) + "f", 100);
        fault("f" + " ".repeat(99), 100);
    }

    /** Promise 4: if the text has a fault, nothing changes; the text stays. */
    private static void promise4FaultLeavesAll() {
        FibredSpaces x = Scene.with("n2;f3 1;", "o1;");
        x.keep(0);
        x.sees(3, 3);
        Due.type(x, "o3;f5 2");
        Due.is("fault", x.tells(0), -17);
        Due.is("fault again", x.tells(0), -17);
        Due.is("fault for another space", x.tells(5), -17);
        Due.stands("space 0", x, 0, 1, 2, 0, 3, 1);
        Due.stands("space 5", x, 5, 0, 0, 0);
        Due.is("observations", x.count(1), 1);
        Due.is("text", x.count(2), 7);
        Due.is("actions", x.count(3), 2);
        Due.is("the text goes on", x.type(';'), 8);
        Due.is("and has no fault then", x.tells(5), 2);
        Due.stands("told", x, 5, 0, 3, 0, 5, 2);
        Due.is("undo", x.undo(), 2);
        Due.stands("undone", x, 5, 0, 0, 0);
        Due.is("image", x.back(0), 1);
    }

    /** Promise 4, and the Terms: a call that returns an error changes nothing, so the text stays. */
    private static void promise4BadLeavesTheText() {
        FibredSpaces x = new FibredSpaces();
        Due.type(x, "f7 3;");
        Due.is("tells(6)", x.tells(6), BAD);
        Due.is("tells(-1)", x.tells(-1), BAD);
        Due.is("text", x.count(2), 5);
        Due.is("tells(5)", x.tells(5), 1);
        Due.stands("told", x, 5, 0, 0, 0, 7, 3);
    }

    /** Promise 4: BAD stands first in the order of the errors, so it goes before a fault. */
    private static void promise4BadBeforeFault() {
        FibredSpaces x = new FibredSpaces();
        Due.type(x, "x");
        Due.is("tells(6)", x.tells(6), BAD);
        Due.is("tells(-1)", x.tells(-1), BAD);
        Due.is("tells(5)", x.tells(5), -10);
    }

    /** Promise 4: empties the text. */
    private static void promise4EmptiesTheText() {
        FibredSpaces x = new FibredSpaces();
        Due.type(x, "f7 3;");
        Due.is("tells", x.tells(0), 1);
        Due.is("length", x.count(2), 0);
        Due.is("a second time", x.tells(1), 0);
        Due.stands("an empty text", x, 1, 0, 0, 0);
    }

    /** Promise 4: the text is a sequence of items, perhaps empty; this is an action all the same. */
    private static void promise4EmptyTextIsAnAction() {
        FibredSpaces x = Scene.with("n2;f3 1;");
        Due.is("an empty text", x.tells(0), 0);
        Due.stands("a new space", x, 0, 0, 0, 0);
        Due.is("two actions", x.count(3), 2);
        Due.is("nothing changes now", x.tells(0), 0);
        Due.is("three actions", x.count(3), 3);
        Due.is("undo", x.undo(), 2);
        Due.is("undo", x.undo(), 1);
        Due.stands("what it was", x, 0, 1, 2, 0, 3, 1);
    }

    /** Promise 4: o N, 0 to 4. */
    private static void promise4GenusOfKind0() {
        for (int n = 0; n <= 4; n++) {
            right("o" + n + ";", 1, 0, n, 0);
        }
        fault("o5;", 1);
        fault("o 9;", 2);
        fault("o-1;", 1);
        fault("o10;", 1);
        right("f1 0;", 1, 0, 0, 0);
    }

    /** Promise 4: n N, 1 to 4. */
    private static void promise4GenusOfKind1() {
        for (int n = 1; n <= 4; n++) {
            right("n" + n + ";", 1, 1, n, 0);
        }
        fault("n0;", 1);
        fault("n5;", 1);
        fault("n -1;", 2);
        fault("n40;", 1);
    }

    /** Promise 4: an item o or n can only be the first one. */
    private static void promise4BaseIsFirst() {
        right("n2;f1 1;", 2, 1, 2, 1);
        fault("o1;o1;", 3);
        fault("o1;n1;", 3);
        fault("n1;n1;", 3);
        fault("n1; o1;", 4);
        fault("f1 1;o1;", 5);
        fault("f1 1;n1;", 5);
        fault("o1;f1 1;  n1;", 10);
    }

    /** Promise 4: A is 1 to 30. */
    private static void promise4RangeOfA() {
        fault("f0 1;", 1);
        right("f1 1;", 1, 0, 0, 1);
        right("f2 1;", 1, 0, 0, 0, 2, 1);
        right("f30 1;", 1, 0, 0, 0, 30, 1);
        fault("f31 1;", 1);
        fault("f99 1;", 1);
        fault("f-2 1;", 1);
    }

    /** Promise 4: B is a number from 0 to 99, or the sign - and such a number. */
    private static void promise4RangeOfB() {
        right("f1 0;", 1, 0, 0, 0);
        right("f1-0;", 1, 0, 0, 0);
        right("f1 1;", 1, 0, 0, 1);
        right("f1-1;", 1, 0, 0, -1);
        right("f1 99;", 1, 0, 0, 99);
        right("f1-99;", 1, 0, 0, -99);
        fault("f1 100;", 3);
        fault("f1-100;", 3);
        right("f29 99;", 1, 0, 0, 3, 29, 12);
        right("f29-99;", 1, 0, 0, -4, 29, 17);
    }

    /** Promise 4: the number of a B that is not coprime to A (0 is coprime to 1 only). */
    private static void promise4Coprime() {
        right("f1 0;", 1, 0, 0, 0);
        fault("f2 0;", 3);
        fault("f30 0;", 4);
        fault("f2-0;", 3);
        fault("f2 2;", 3);
        fault("f2 - 98;", 5);
        fault("f30 99;", 4);
        right("f30 97;", 1, 0, 0, 3, 30, 7);
        fault("f30 15;", 4);
        right("f15 1;", 1, 0, 0, 0, 15, 1);
        fault("f29 58;", 4);
        right("f29 59;", 1, 0, 0, 2, 29, 1);
    }

    /** Promise 4: there are at most 8 items f; the fault is the f of a ninth pair. */
    private static void promise4EightPairs() {
        right("f1 1;".repeat(8), 8, 0, 0, 8);
        fault("f1 1;".repeat(9), 40);
        fault("f1 1;".repeat(8) + "f", 40);
        fault("o1;" + "f1 1;".repeat(8) + "  f1 1;", 45);
        right("n1;" + "f1 1;".repeat(8), 9, 1, 1, 8);
    }

    /** Promise 4: at most 6 of them with A other than 1; the fault is the A if there are 6 such pairs. */
    private static void promise4SixFibres() {
        int[] six = {2, 1, 2, 1, 2, 1, 2, 1, 2, 1, 2, 1};
        right("f2 1;".repeat(6), 6, 0, 0, 0, six);
        right("f2 1;".repeat(6) + "f1 1;f1 1;", 8, 0, 0, 2, six);
        right("f1 1;f1 1;" + "f2 1;".repeat(6), 8, 0, 0, 2, six);
        right("f2 1;f1 1;" + "f2 1;".repeat(5) + "f1-9;", 8, 0, 0, -8, six);
        fault("f2 1;".repeat(7), 31);
        fault("f2 1;".repeat(6) + "f 30 1;", 32);
        fault("f2 1;".repeat(6) + "f1 1;f3 1;", 36);
        fault("f1 1;" + "f2 1;".repeat(6) + "f3 1;", 36);
        fault("f2 1;".repeat(6) + "f3", 31);
        fault("f2 1;".repeat(6) + "f", 31);
    }

    /** Promise 4: a ninth pair is wrong at its f, even if its A would be the seventh other than 1. */
    private static void promise4NinthPairBeforeSeventhFibre() {
        fault("f2 1;".repeat(6) + "f1 1;f1 1;f2 1;", 40);
    }

    /** Promise 4: B / A is rounded down, also below 0. */
    private static void promise4Normalizes() {
        right("f2 1;", 1, 0, 0, 0, 2, 1);
        right("f2-1;", 1, 0, 0, -1, 2, 1);
        right("f2 3;", 1, 0, 0, 1, 2, 1);
        right("f2-3;", 1, 0, 0, -2, 2, 1);
        right("f2 99;", 1, 0, 0, 49, 2, 1);
        right("f2-99;", 1, 0, 0, -50, 2, 1);
        right("f30 29;", 1, 0, 0, 0, 30, 29);
        right("f30 31;", 1, 0, 0, 1, 30, 1);
        right("f30-1;", 1, 0, 0, -1, 30, 29);
        right("f30-29;", 1, 0, 0, -1, 30, 1);
        right("f30-31;", 1, 0, 0, -2, 30, 29);
    }

    /** Promise 4: the fibres are in ascending order of A, and for the same A of B. */
    private static void promise4Sorts() {
        right("f30 1;f29 28;f2 1;", 3, 0, 0, 0, 2, 1, 29, 28, 30, 1);
        right("f5 4;f5 3;f5 2;f5 1;f5 2;f5 4;", 6, 0, 0, 0, 5, 1, 5, 2, 5, 2, 5, 3, 5, 4, 5, 4);
        right("f5-4;f5 4;f3 5;", 3, 0, 0, 0, 3, 2, 5, 1, 5, 4);
    }

    /** Promise 4: the greatest and the least shift that a text can give. */
    private static void promise4GreatestShift() {
        right("f1 99;".repeat(8), 8, 0, 0, 792);
        right("f1-99;".repeat(8), 8, 0, 0, -792);
    }

    /** Promise 4: blanks before, between and behind tokens; needed only between two numbers. */
    private static void promise4Blanks() {
        right("   ", 0, 0, 0, 0);
        right(" ".repeat(100), 0, 0, 0, 0);
        right("  o  1  ;  f  2  -  1  ;  ", 2, 0, 1, -1, 2, 1);
        right("o1;f2-1;f2 1;", 3, 0, 1, -1, 2, 1, 2, 1);
        fault("f21;", 3);
        fault("f2 1 1;", 5);
        fault("o1 0;", 3);
        fault("f1 9 9;", 5);
        fault("  f  1  9  9;", 11);
    }

    /** Promise 4: numbers are longest sequences of digits. */
    private static void promise4LongestDigits() {
        right("f1 12;", 1, 0, 0, 12);
        fault("f111;", 1);
        fault("o11;", 1);
        fault("f30;", 3);
        fault("f301;", 1);
    }

    /** Promise 4: a number above 99. */
    private static void promise4NumbersAbove99() {
        right("f1 99;", 1, 0, 0, 99);
        fault("f1 100;", 3);
        fault("f1 - 101;", 5);
        fault("f100 1;", 1);
        fault("o100;", 1);
        fault("n 999;", 2);
        fault("100;", 0);
    }

    /** Promise 4: a number whose lowest 32 or 64 bits are in range is above 99 all the same. */
    private static void promise4NumbersDoNotWrap() {
        fault("f1 4294967297;", 3);
        fault("o4294967296;", 1);
        fault("f4294967298 1;", 1);
        fault("f1-18446744073709551617;", 3);
        fault("n18446744073709551617;", 1);
        fault("f1 " + "1".repeat(96) + ";", 3);
        fault("f1 1" + "0".repeat(96), 3);
    }

    /** Promise 4: a number with a 0 before other digits. */
    private static void promise4ZerosAhead() {
        right("o0;", 1, 0, 0, 0);
        fault("o00;", 1);
        fault("o01;", 1);
        fault("n01;", 1);
        fault("f01 1;", 1);
        right("f1 0;", 1, 0, 0, 0);
        fault("f1 00;", 3);
        fault("f1 01;", 3);
        fault("f1-00;", 3);
        fault("f1 - 07;", 5);
        fault("f1 " + "0".repeat(97), 3);
        right("f10 1;", 1, 0, 0, 0, 10, 1);
        right("f1 10;", 1, 0, 0, 10);
    }

    /** Promise 4: if the text ends too early, the fault is its length. */
    private static void promise4EndsTooEarly() {
        String[] early = {"o", "o1", "n", "n1", "f", "f2", "f2-", "f2 1", "f2-1"};
        for (String text : early) {
            fault(text, text.length());
            fault(text + "   ", text.length() + 3);
            fault("  " + text, text.length() + 2);
        }
        fault("o1;f2", 5);
        fault("f2 1;f2 1", 9);
        right("f2 1;", 1, 0, 0, 0, 2, 1);
        right("f2 1;  ", 1, 0, 0, 0, 2, 1);
    }

    /** Promise 4: any other byte, and above all the neighbours of the bytes that are tokens. */
    private static void promise4OtherBytes() {
        for (int letter = 0; letter < 256; letter++) {
            boolean begins = letter == 'o' || letter == 'n' || letter == 'f';
            FibredSpaces x = new FibredSpaces();
            x.type(letter);
            int due = letter == ' ' ? 0 : begins ? -11 : -10;
            Due.is("byte " + letter + " alone", x.tells(0), due);
            x = new FibredSpaces();
            Due.type(x, "f7 1");
            x.type(letter);
            boolean goesOn = letter == ' ' || letter >= '0' && letter <= '9' && letter != '4';
            due = letter == ';' ? 1 : goesOn ? -15 : letter == '4' ? -13 : -14;
            Due.is("byte " + letter + " behind a pair", x.tells(0), due);
        }
    }

    /** Promise 4: any other byte, behind each token of an item; a number before it may not be taken for it. */
    private static void promise4OtherBytesInEveryPlace() {
        everyByte("o", " 01234", "", 0);
        everyByte("n", " 1234", "", 0);
        everyByte("o1;n", "", "", 0, 3);
        everyByte("o1", " ", "0123456789", 1);
        everyByte("f", " 123456789", "", 0);
        everyByte("f7", " -", "0123456789", 1);
        everyByte("f3 ", " -124578", "", 0);
        everyByte("f3-", " 124578", "", 0);
        everyByte("f3 1;f ", " 123456789", "", 0);
        everyByte("f3 1;f1 ", " -0123456789", "", 0);
    }

    private static void everyByte(String text, String goesOn, String inNumber, int number) {
        everyByte(text, goesOn, inNumber, number, text.length());
    }

    /** Behind the text stands a byte that goes on, one that spoils the number before it, or a fault. */
    private static void everyByte(String text, String goesOn, String inNumber, int number, int other) {
        for (int letter = 0; letter < 256; letter++) {
            FibredSpaces x = new FibredSpaces();
            Due.type(x, text);
            x.type(letter);
            int fault = goesOn.indexOf(letter) >= 0 ? text.length() + 1 : inNumber.indexOf(letter) >= 0 ? number : other;
            boolean ends = letter == ';' && text.equals("o1");
            Due.is("byte " + letter + " behind " + text, x.tells(0), ends ? 1 : -10 - fault);
        }
    }

    /** Promise 4: the first token that cannot stand there. */
    private static void promise4TokensOutOfPlace() {
        fault(";", 0);
        fault("o1;;", 3);
        fault("-1;", 0);
        fault("1;", 0);
        fault("o;", 1);
        fault("o f1 1;", 2);
        fault("o-0;", 1);
        fault("f;", 1);
        fault("f f", 2);
        fault("f1;", 2);
        fault("f1 f", 3);
        fault("f1 -;", 4);
        fault("f1 --1;", 4);
        fault("f1 1-;", 4);
        fault("f1 1f1 1;", 4);
        fault("o1f1 1;", 2);
    }

    /** Promise 4: of several faults the first one. */
    private static void promise4FirstFaultCounts() {
        fault("f2 2;f31 1;", 3);
        fault("f31 x", 1);
        fault("o5;o5;", 1);
        fault("f2 1;x;o1;", 5);
        fault("f1 100", 3);
        fault("f2 0", 3);
    }
}
