import java.lang.reflect.Constructor;
import java.lang.reflect.Field;
import java.lang.reflect.Method;
import java.lang.reflect.Modifier;
import java.util.Arrays;
import java.util.List;
import java.util.TreeSet;

/** The public face, by its members; and rules 1 and 5 of LANGUAGE.md as far as they can be read off. */
public final class FaceTest {
    private static final List<String> METHODS = List.of(
            "int type(int)", "int clear()", "int tells(int)", "int mirrors(int)", "int joins(int,int,int)",
            "int fills(int,int,int)", "int drills(int,int)", "int turnsOn(int,int)", "int unwraps(int,int)",
            "int unrolls(int,int)", "int undo()", "long space(int,int)", "int fibre(int,int,int)",
            "long euler(int,int)", "long over(int,int)", "int like(int,int)", "long torsion(int,int)",
            "long maps(int,int)", "long threes(int)", "long lens(int,int)", "int sees(int,long)", "int forget()",
            "int which()", "int ask()", "int keep(int)", "int back(int)", "int count(int)");

    public static void main(String[] args) throws Exception {
        Class<?> c = FibredSpaces.class;
        Due.is("public final", c.getModifiers() & (Modifier.PUBLIC | Modifier.FINAL), Modifier.PUBLIC | Modifier.FINAL);
        TreeSet<String> found = new TreeSet<>();
        for (Method m : c.getDeclaredMethods()) {
            if (!Modifier.isPrivate(m.getModifiers())) {
                found.add(text(m));
            }
        }
        Due.is("methods " + found, found.equals(new TreeSet<>(METHODS)) ? 1 : 0, 1);
        Constructor<?>[] made = c.getDeclaredConstructors();
        Due.is("constructors", made.length, 1);
        Due.is("its parameters", made[0].getParameterCount(), 0);
        Due.is("public", Modifier.isPublic(made[0].getModifiers()) ? 1 : 0, 1);
        fields(c);
        for (Class<?> inner : c.getDeclaredClasses()) {
            Due.is(inner + " is static", Modifier.isStatic(inner.getModifiers()) ? 1 : 0, 1);
            Due.is(inner + " is not public", Modifier.isPublic(inner.getModifiers()) ? 1 : 0, 0);
            staticFieldsAreFinal(inner);
            privateNames(inner);
        }
        privateNames(c);
        constants();
        Due.end();
    }

    private static String text(Method m) {
        String parameters = String.join(",", Arrays.stream(m.getParameterTypes()).map(Class::getName).toList());
        return m.getReturnType().getName() + " " + m.getName() + "(" + parameters + ")";
    }

    private static void fields(Class<?> c) {
        TreeSet<String> open = new TreeSet<>();
        for (Field f : c.getDeclaredFields()) {
            if (!Modifier.isPrivate(f.getModifiers())) {
                open.add(f.getType() + " " + f.getName());
            }
        }
        TreeSet<String> want = new TreeSet<>(List.of("int BAD", "int STATE", "int FULL", "int NONE", "long NO"));
        Due.is("fields " + open, open.equals(want) ? 1 : 0, 1);
        staticFieldsAreFinal(c);
    }

    private static void staticFieldsAreFinal(Class<?> c) {
        for (Field f : c.getDeclaredFields()) {
            boolean free = Modifier.isStatic(f.getModifiers()) && !Modifier.isFinal(f.getModifiers());
            Due.is(f + " is final", free ? 1 : 0, 0);
        }
    }

    private static void privateNames(Class<?> c) {
        for (Method m : c.getDeclaredMethods()) {
            boolean taken = METHODS.stream().anyMatch(t -> t.contains(" " + m.getName() + "("));
            boolean face = c == FibredSpaces.class && Modifier.isPublic(m.getModifiers());
            Due.is(m + " has a name of its own", taken && !face ? 1 : 0, 0);
        }
    }

    private static void constants() {
        Due.is("BAD", FibredSpaces.BAD, -1);
        Due.is("STATE", FibredSpaces.STATE, -2);
        Due.is("FULL", FibredSpaces.FULL, -3);
        Due.is("NONE", FibredSpaces.NONE, -9);
        Due.is("NO", FibredSpaces.NO, -1000000000000000000L);
    }
}
