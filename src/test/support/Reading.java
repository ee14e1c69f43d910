import java.util.ArrayList;
import java.util.List;
import java.util.regex.Matcher;
import java.util.regex.Pattern;

/** A text of the document, read by splitting it into tokens first. */
final class Reading {
    int kind = 0;
    int genus = 0;
    int items = 0;
    final List<int[]> pairs = new ArrayList<>();
    /** -1 if there is none. */
    int fault = -1;

    private record Token(String word, int at) {
    }

    Reading(String text) {
        List<Token> tokens = new ArrayList<>();
        Matcher m = Pattern.compile("[0-9]+|[^ ]", Pattern.DOTALL).matcher(text);
        while (m.find()) {
            tokens.add(new Token(m.group(), m.start()));
        }
        String state = "item";
        int a = 0;
        int sign = 1;
        for (Token t : tokens) {
            String w = t.word;
            boolean number = w.matches("0|[1-9][0-9]?");
            int n = number ? Integer.parseInt(w) : -1;
            String next = null;
            switch (state) {
                case "item":
                    if (w.equals("o") && items == 0) {
                        kind = 0;
                        next = "genus";
                    } else if (w.equals("n") && items == 0) {
                        kind = 1;
                        next = "genus";
                    } else if (w.equals("f") && pairs.size() < 8) {
                        next = "A";
                    }
                    break;
                case "genus":
                    if (n >= kind && n <= 4) {
                        genus = n;
                        next = "end";
                    }
                    break;
                case "A":
                    long crooked = pairs.stream().filter(p -> p[0] != 1).count();
                    if (n == 1 || n > 1 && n <= 30 && crooked < 6) {
                        a = n;
                        sign = 1;
                        next = "B";
                    }
                    break;
                case "B":
                case "-B":
                    if (state.equals("B") && w.equals("-")) {
                        sign = -1;
                        next = "-B";
                    } else if (number && Model.gcd(a, n) == 1) {
                        pairs.add(new int[] {a, sign * n});
                        next = "end";
                    }
                    break;
                default:
                    if (w.equals(";")) {
                        items++;
                        next = "item";
                    }
            }
            if (next == null) {
                fault = t.at;
                return;
            }
            state = next;
        }
        if (!state.equals("item")) {
            fault = text.length();
        }
    }
}
