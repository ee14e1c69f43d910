import java.util.Random;

/** Promises 2 to 4: the text, its faults, and what it describes. */
public final class TextsTest {
    public static void main(String[] args) {
        bytes();
        described();
        faults();
        faultChangesNothing();
        randomTexts();
        Due.end();
    }

    private static void bytes() {
        FibredSpaces x = new FibredSpaces();
        Due.is("type(-1)", x.type(-1), FibredSpaces.BAD);
        Due.is("type(256)", x.type(256), FibredSpaces.BAD);
        Due.is("type(min)", x.type(Integer.MIN_VALUE), FibredSpaces.BAD);
        Due.is("type(max)", x.type(Integer.MAX_VALUE), FibredSpaces.BAD);
        Due.is("type(0)", x.type(0), 1);
        Due.is("type(255)", x.type(255), 2);
        Due.is("clear()", x.clear(), 2);
        Due.is("clear() again", x.clear(), 0);
        for (int k = 1; k <= 100; k++) {
            Due.is("type blank " + k, x.type(32), k);
        }
        Due.is("type of byte 101", x.type(32), FibredSpaces.FULL);
        Due.is("a bad byte before a full text", x.type(300), FibredSpaces.BAD);
        Due.is("length", x.count(2), 100);
        Due.is("a text of blanks has no items", x.tells(0), 0);
        Due.is("the text is empty then", x.count(2), 0);
        Due.is("there is room then", x.type(32), 1);
    }

    private static void described() {
        FibredSpaces x = new FibredSpaces();
        Due.tell(x, 0, "", 0);
        Due.stands("empty", x, 0, 0, 0, 0);
        Due.tell(x, 0, "o4;", 1);
        Due.stands("o4", x, 0, 0, 4, 0);
        Due.tell(x, 0, " n 4 ; ", 1);
        Due.stands("n4", x, 0, 1, 4, 0);
        Due.tell(x, 0, "o0;f30-7;f 2 1;", 3);
        Due.stands("o0", x, 0, 0, 0, -1, 2, 1, 30, 23);
        Due.tell(x, 1, "f5 99;f5-99;f 5 1;f 3 2;", 4);
        Due.stands("sorted", x, 1, 0, 0, 19 - 20, 3, 2, 5, 1, 5, 1, 5, 4);
        Due.tell(x, 2, "n1;f1 0;f1-0;f1 99;f1-3;", 5);
        Due.stands("pairs with A = 1", x, 2, 1, 1, 96);
        Due.tell(x, 3, "f1 99;f1 99;f1 99;f1 99;f1 99;f1 99;f1 99;f1 99;", 8);
        Due.stands("greatest shift", x, 3, 0, 0, 792);
        Due.tell(x, 3, "o1;f2-1;f2-1;f2-1;f2-1;f2-1;f2-1;f1 1;f1 1;", 9);
        Due.stands("most items", x, 3, 0, 1, -4, 2, 1, 2, 1, 2, 1, 2, 1, 2, 1, 2, 1);
        Due.tell(x, 3, "f 2 - 1 ;", 1);
        Due.stands("blank behind the sign", x, 3, 0, 0, -1, 2, 1);
        Due.stands("another space", x, 1, 0, 0, -1, 3, 2, 5, 1, 5, 1, 5, 4);
    }

    private static void fault(String text, int fault) {
        FibredSpaces x = new FibredSpaces();
        Due.type(x, text);
        Due.is("fault of '" + text + "'", x.tells(0), -10 - fault);
        Due.is("no such space, '" + text + "'", x.tells(6), FibredSpaces.BAD);
        Due.is("no such space, '" + text + "'", x.tells(-1), FibredSpaces.BAD);
        Due.is("length of '" + text + "'", x.count(2), text.length());
    }

    private static void faults() {
        fault(";", 0);
        fault("  x", 2);
        fault("\t", 0);
        fault("O1;", 0);
        fault("1", 0);
        fault("-", 0);
        fault("o", 1);
        fault("o  ", 3);
        fault("o1", 2);
        fault("o 5;", 2);
        fault("o-1;", 1);
        fault("o01;", 1);
        fault("o00;", 1);
        fault("n0;", 1);
        fault("n5;", 1);
        fault("n 10;", 2);
        fault("o1 1;", 3);
        fault("o1;o1;", 3);
        fault("o1; n1;", 4);
        fault("f1 1;n1;", 5);
        fault("o1;;", 3);
        fault("f", 1);
        fault("f;", 1);
        fault("f 0 1;", 2);
        fault("f 31 1;", 2);
        fault("f 02 1;", 2);
        fault("f 100 1;", 2);
        fault("f-2 1;", 1);
        fault("f2", 2);
        fault("f21;", 3);
        fault("f2;", 2);
        fault("f2 1", 4);
        fault("f2 1 ", 5);
        fault("f2-", 3);
        fault("f2--1;", 3);
        fault("f2 +1;", 3);
        fault("f2 0;", 3);
        fault("f2-0;", 3);
        fault("f6 9;", 3);
        fault("f6 - 9;", 5);
        fault("f1 100;", 3);
        fault("f1 99999999999999999999999999;", 3);
        fault("f1 4294967297;", 3);
        fault("f1 01;", 3);
        fault("f1 00;", 3);
        fault("f1 1 1;", 5);
        fault("f1 1-;", 4);
        fault("f2 1;f2 1;f2 1;f2 1;f2 1;f2 1;f3 1;", 31);
        fault("f2 1;f2 1;f2 1;f2 1;f2 1;f2 1;f1 1;f 3 1;", 37);
        fault("f1 1;f1 1;f1 1;f1 1;f1 1;f1 1;f1 1;f1 1;f1 1;", 40);
        fault("n2;f1 1;f1 1;f1 1;f1 1;f1 1;f1 1;f1 1;f1 1; f1 1;", 44);
        fault("f1 1;" + (char) 160, 5);
        fault("f1 1;" + (char) 0, 5);
        fault("f2 1;" + " ".repeat(94) + "f", 100);
    }

    private static void faultChangesNothing() {
        FibredSpaces x = new FibredSpaces();
        Due.tell(x, 0, "n2;f3 1;", 2);
        Due.type(x, "o1;f5 2;f3 3;");
        Due.is("fault", x.tells(0), -21);
        Due.is("text stays", x.count(2), 13);
        Due.is("nothing to undo for it", x.count(3), 1);
        Due.stands("after a fault", x, 0, 1, 2, 0, 3, 1);
        Due.is("bytes can follow", x.type(';'), 14);
        Due.is("clear", x.clear(), 14);
    }

    private static void randomTexts() {
        Random random = new Random(7);
        String[] pieces = {"o", "n", "f", "f", "f", "-", ";", ";", ";", " ", " ", "0", "1", "2", "3", "4", "29",
            "30", "31", "99", "100", "f1 ", "f2 1;", "f 5 -", "f3", "x", "f7 3;", "f1 1;"};
        for (int k = 0; k < 60000; k++) {
            StringBuilder text = new StringBuilder();
            int length = random.nextInt(14);
            while (length-- > 0) {
                text.append(pieces[random.nextInt(random.nextInt(3) == 0 ? pieces.length : 23)]);
            }
            check(text.toString());
        }
        for (int k = 0; k < 30000; k++) {
            check(almostRight(random));
        }
    }

    private static String almostRight(Random random) {
        StringBuilder text = new StringBuilder(random.nextInt(3) == 0 ? "n2;" : "");
        int pairs = random.nextInt(11);
        for (int p = 0; p < pairs; p++) {
            int a = random.nextInt(3) == 0 ? 1 : 2 + random.nextInt(29);
            int b = random.nextInt(100);
            text.append("f").append(a).append(random.nextBoolean() ? " " : "-");
            text.append(Model.gcd(a, b) == 1 || random.nextInt(20) == 0 ? b : 1).append(";");
        }
        if (random.nextInt(3) == 0 && text.length() > 0) {
            int at = random.nextInt(text.length());
            text.setCharAt(at, "onf-; 0159x".charAt(random.nextInt(11)));
        }
        return text.length() > 100 ? text.substring(0, 100) : text.toString();
    }

    private static void check(String text) {
        FibredSpaces x = new FibredSpaces();
        Model m = new Model();
        for (int k = 0; k < text.length(); k++) {
            x.type(text.charAt(k));
            m.type(text.charAt(k));
        }
        Due.is("tells of '" + text + "'", x.tells(4), m.tells(4));
        Due.is("length of '" + text + "'", x.count(2), m.count(2));
        for (int what = 0; what < 4; what++) {
            Due.is("space of '" + text + "'", x.space(4, what), m.space(4, what));
        }
        for (int k = 0; k < 6; k++) {
            Due.is("A of '" + text + "'", x.fibre(4, k, 0), m.fibre(4, k, 0));
            Due.is("B of '" + text + "'", x.fibre(4, k, 1), m.fibre(4, k, 1));
        }
    }
}
