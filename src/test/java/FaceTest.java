import java.lang.reflect.Field;
import java.lang.reflect.Member;
import java.lang.reflect.Method;
import java.lang.reflect.Modifier;
import java.util.Set;
import java.util.TreeSet;

/** The public face is the document's, whole and with nothing beside it. */
public final class FaceTest {
    private static final String TELLING = " [NoSuchElementException, IllegalArgumentException, IllegalStateException]";
    private static final String ASKING = " [NoSuchElementException]";

    private static final Set<String> FACE = Set.of(
            "int tell/4" + TELLING, "int insert/4" + TELLING, "int remove/2" + TELLING,
            "int relate/3" + TELLING, "int drop/2" + TELLING, "int join/2" + ASKING,
            "int number/1 [NoSuchElementException, IllegalStateException]",
            "int at/4" + ASKING, "int place/3" + ASKING, "int order/3" + ASKING,
            "int open/2" + ASKING, "boolean knows/2" + ASKING, "boolean equal/2" + ASKING,
            "int compact/0 []",
            "int about/3 [NoSuchElementException, IllegalArgumentException]",
            "int count/1 [IllegalArgumentException]");

    public static void main(String[] args) {
        Class<?> c = TrenchMerge.class;
        Check.same("the class", "public final", Modifier.toString(c.getModifiers()));
        Check.same("constructors", "1", String.valueOf(c.getDeclaredConstructors().length));
        Check.same("methods", new TreeSet<>(FACE).toString(), visibleMethods(c).toString());
        Check.same("constants", "[NONE]", visibleFields(c).toString());
        Check.same("NONE", "-1", String.valueOf(TrenchMerge.NONE));
        for (Class<?> inside : c.getDeclaredClasses()) {
            Check.same(inside + " is static", "true",
                    String.valueOf(Modifier.isStatic(inside.getModifiers())));
        }
        Check.finish();
    }

    private static boolean isVisible(Member member) {
        return !Modifier.isPrivate(member.getModifiers()) && !member.isSynthetic();
    }

    private static Set<String> visibleMethods(Class<?> c) {
        Set<String> names = new TreeSet<>();
        for (Method m : c.getDeclaredMethods()) {
            if (isVisible(m)) {
                names.add(m.getReturnType() + " " + m.getName() + "/" + m.getParameterCount()
                        + " " + exceptions(m));
            }
        }
        return names;
    }

    private static String exceptions(Method m) {
        StringBuilder names = new StringBuilder("[");
        for (Class<?> e : m.getExceptionTypes()) {
            names.append(names.length() == 1 ? "" : ", ").append(e.getSimpleName());
        }
        return names.append("]").toString();
    }

    private static Set<String> visibleFields(Class<?> c) {
        Set<String> names = new TreeSet<>();
        for (Field f : c.getDeclaredFields()) {
            if (isVisible(f)) {
                names.add(f.getName());
            }
        }
        return names;
    }
}
