import java.lang.reflect.Constructor;
import java.lang.reflect.Field;
import java.lang.reflect.Method;
import java.lang.reflect.Modifier;
import java.util.Arrays;
import java.util.Set;
import java.util.TreeSet;

/** The class has the document's face, and nothing else that can be seen. */
public final class FaceTest {
    private static final String METHODS = "int parish(int,int) int of(int,int) int group(int,int) int terms(int,int) "
        + "int feed(int,int,int,int,int) int end(int) int row() int stones() int law() int orders() int fault() "
        + "int stopped() int force(int) int reckon(int) int pass() int lend(int,int,int) int grow(int,int) int undo() "
        + "int once(int) int fewest(int) int lent(int) long odds(int,int,int) int best(int) int hear(int,int) "
        + "int forget() int hidden(int) int look(int) int moved(int) int flow(int,int) int years(int,int) "
        + "int drawn(int,int) int image(int) int back(int) int count(int) int status()";

    private FaceTest() {
    }

    public static void main(String[] args) {
        Class<?> c = OverByTens.class;
        Check.due("public final", c.getModifiers() & (Modifier.PUBLIC | Modifier.FINAL),
                Modifier.PUBLIC | Modifier.FINAL);
        Set<String> want = new TreeSet<>();
        String[] words = METHODS.split(" ");
        for (int i = 0; i < words.length; i += 2) {
            want.add(words[i] + " " + words[i + 1]);
        }
        Set<String> got = new TreeSet<>();
        Set<String> names = new TreeSet<>();
        for (Method m : c.getDeclaredMethods()) {
            if (!Modifier.isPrivate(m.getModifiers())) {
                got.add(m.getReturnType() + " " + m.getName()
                        + Arrays.toString(m.getParameterTypes()).replace("[", "(").replace("]", ")").replace(" ", ""));
                names.add(m.getName());
                Check.due(m + " is public and not static",
                        m.getModifiers() & (Modifier.PUBLIC | Modifier.STATIC), Modifier.PUBLIC);
            }
        }
        Check.due("methods " + got + " as " + want, got.equals(want) ? 1 : 0, 1);
        for (Class<?> inner : c.getDeclaredClasses()) {
            Check.due(inner + " is static", Modifier.isStatic(inner.getModifiers()) ? 1 : 0, 1);
            for (Method m : inner.getDeclaredMethods()) {
                Check.due(m + " bears the name of a public one", names.contains(m.getName()) ? 1 : 0, 0);
            }
            Check.due("fields of " + inner, fields(inner) <= 20 ? 1 : 0, 1);
        }
        for (Method m : c.getDeclaredMethods()) {
            boolean hides = Modifier.isPrivate(m.getModifiers()) && names.contains(m.getName());
            Check.due(m + " bears the name of a public one", hides ? 1 : 0, 0);
        }
        Check.due("fields", fields(c) <= 20 ? 1 : 0, 1);
        Check.due("classes", c.getDeclaredClasses().length < 12 ? 1 : 0, 1);
        constants(c);
        Check.end("FaceTest");
    }

    private static int fields(Class<?> c) {
        int n = 0;
        for (Field f : c.getDeclaredFields()) {
            n += Modifier.isStatic(f.getModifiers()) ? 0 : 1;
        }
        return n;
    }

    private static void constants(Class<?> c) {
        Set<String> seen = new TreeSet<>();
        for (Field f : c.getDeclaredFields()) {
            if (!Modifier.isPrivate(f.getModifiers())) {
                seen.add(f.getName());
                Check.due(f + " is a constant", f.getModifiers(), Modifier.PUBLIC | Modifier.STATIC | Modifier.FINAL);
            }
        }
        Check.due("constants " + seen, seen.equals(Set.of("NONE", "NOTHING")) ? 1 : 0, 1);
        Check.due("NONE", OverByTens.NONE, -1);
        Check.due("NOTHING", OverByTens.NOTHING, -1000);
        Constructor<?>[] made = c.getDeclaredConstructors();
        Check.due("constructors", made.length, 1);
        Check.due("its parameters", made[0].getParameterCount(), 0);
        Check.due("public", made[0].getModifiers(), Modifier.PUBLIC);
    }
}
