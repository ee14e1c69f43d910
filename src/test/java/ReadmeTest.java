import java.lang.reflect.Method;
import java.nio.file.Files;
import java.nio.file.Path;
import java.util.regex.Matcher;
import java.util.regex.Pattern;

/** Every answer that README.md gives; run from the project's root. */
public final class ReadmeTest {
    private static final Pattern NEW = Pattern.compile("FibredSpaces x = new FibredSpaces\\(\\);");
    private static final Pattern TYPED = Pattern.compile("for \\(char c : \"(.*)\"\\.toCharArray\\(\\)\\) x\\.type\\(c\\);");
    private static final Pattern CALL = Pattern.compile("x\\.(\\w+)\\(([-0-9, ]*)\\); +// (-?\\d+)(:.*)?");
    private static final int PARTS = 4;

    public static void main(String[] args) throws Exception {
        String readme = Files.readString(Path.of("README.md"));
        Matcher parts = Pattern.compile("(?s)```java\n(.*?)```").matcher(readme);
        int found = 0;
        while (parts.find()) {
            found++;
            run(parts.group(1));
        }
        Due.is("parts of the README", found, PARTS);
        Due.end();
    }

    private static void run(String part) throws Exception {
        FibredSpaces x = null;
        for (String line : part.split("\n")) {
            Matcher typed = TYPED.matcher(line);
            Matcher call = CALL.matcher(line);
            if (NEW.matcher(line).matches()) {
                x = new FibredSpaces();
            } else if (typed.matches()) {
                Due.type(x, typed.group(1));
            } else if (call.matches()) {
                Due.is(line, answer(x, call.group(1), call.group(2)), Long.parseLong(call.group(3)));
            } else {
                Due.is("a line that is no call: " + line, 0, 1);
            }
        }
    }

    private static long answer(FibredSpaces x, String name, String arguments) throws Exception {
        for (Method m : FibredSpaces.class.getMethods()) {
            if (m.getName().equals(name)) {
                return ((Number) m.invoke(x, values(m, arguments))).longValue();
            }
        }
        throw new IllegalStateException("there is no call " + name);
    }

    private static Object[] values(Method m, String arguments) {
        Object[] values = new Object[m.getParameterCount()];
        String[] words = arguments.isEmpty() ? new String[0] : arguments.split(", ");
        for (int k = 0; k < values.length; k++) {
            long value = Long.parseLong(words[k]);
            if (m.getParameterTypes()[k] == long.class) {
                values[k] = value;
            } else {
                values[k] = (int) value;
            }
        }
        return values;
    }
}
