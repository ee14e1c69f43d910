/** Objects that several tests begin with, and what can be seen of an object. */
final class Scene {
    /** Numbers that are no space; the far ones would wrap around in a careless sum. */
    static final int[] NO_SPACES = {-1, 6, Integer.MIN_VALUE, Integer.MAX_VALUE};

    private Scene() {
    }

    /** An object whose first spaces are those that the texts describe. */
    static FibredSpaces with(String... texts) {
        FibredSpaces x = new FibredSpaces();
        for (int i = 0; i < texts.length; i++) {
            Due.type(x, texts[i]);
            Due.is("tells of " + texts[i], x.tells(i) >= 0 ? 1 : 0, 1);
        }
        return x;
    }

    /** The same, with the first space moved to a shift, and with nothing to undo. */
    static FibredSpaces shifted(int shift, String... texts) {
        FibredSpaces x = with(texts);
        move(x, 0, shift);
        x.keep(1);
        x.back(1);
        return x;
    }

    /** Moves space i to a shift, which no pair alone may reach. */
    static void move(FibredSpaces x, int i, int shift) {
        for (int k = 0; k < 25 && x.space(i, 2) != shift; k++) {
            long left = shift - x.space(i, 2);
            x.fills(i, 1, (int) Math.max(-99, Math.min(99, left)));
        }
        Due.is("the shift that the test begins with", x.space(i, 2), shift);
    }

    /** All bases, shifts and fibres. */
    static String shelf(FibredSpaces x) {
        StringBuilder seen = new StringBuilder();
        for (int i = 0; i < 6; i++) {
            long fibres = x.space(i, 3);
            seen.append(i).append(": ").append(x.space(i, 0)).append(' ').append(x.space(i, 1));
            seen.append(' ').append(x.space(i, 2));
            for (int k = 0; k < fibres; k++) {
                seen.append(' ').append(x.fibre(i, k, 0)).append('/').append(x.fibre(i, k, 1));
            }
            seen.append("; ");
        }
        return seen.toString();
    }
}
