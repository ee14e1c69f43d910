/** Counts and prints the answers that are not as due. */
final class Due {
    private static int checked = 0;
    private static int wrong = 0;

    private Due() {
    }

    static void is(String call, long got, long want) {
        checked++;
        if (got != want) {
            wrong++;
            if (wrong <= 50) {
                System.out.println(call + " answered " + got + ", due is " + want);
            }
        }
    }

    static void same(String call, String got, String want) {
        checked++;
        if (!got.equals(want)) {
            wrong++;
            if (wrong <= 50) {
                System.out.println(call + " left " + got + ", due is " + want);
            }
        }
    }

    static void end() {
        System.out.println(checked + " answers, " + wrong + " not as due");
        if (wrong != 0 || checked == 0) {
            System.exit(1);
        }
    }

    /** Types a text; the object's text has to be empty before. */
    static void type(FibredSpaces x, String text) {
        for (int k = 0; k < text.length(); k++) {
            is("type in " + text, x.type(text.charAt(k)), k + 1);
        }
    }

    /** Replaces space i by the one that the text describes. */
    static void tell(FibredSpaces x, int i, String text, int items) {
        x.clear();
        type(x, text);
        is("tells(" + i + ") of " + text, x.tells(i), items);
    }

    /** Whether space i has the given base, shift and fibres (A, B, A, B ..). */
    static void stands(String where, FibredSpaces x, int i, int kind, int genus, int shift, int... fibres) {
        is(where + ": space(" + i + ",0)", x.space(i, 0), kind);
        is(where + ": space(" + i + ",1)", x.space(i, 1), genus);
        is(where + ": space(" + i + ",2)", x.space(i, 2), shift);
        is(where + ": space(" + i + ",3)", x.space(i, 3), fibres.length / 2);
        for (int k = 0; 2 * k < fibres.length; k++) {
            is(where + ": fibre(" + i + "," + k + ",0)", x.fibre(i, k, 0), fibres[2 * k]);
            is(where + ": fibre(" + i + "," + k + ",1)", x.fibre(i, k, 1), fibres[2 * k + 1]);
        }
    }
}
