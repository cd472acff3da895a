import java.lang.reflect.Constructor;
import java.lang.reflect.Executable;
import java.lang.reflect.Field;
import java.lang.reflect.Member;
import java.lang.reflect.Method;
import java.lang.reflect.Modifier;
import java.util.Arrays;
import java.util.Set;
import java.util.TreeSet;
import java.util.stream.Collectors;

/** The public face is the document's, whole and with nothing beside it. */
public final class FaceTest {
    private static final String TELLING = " [NoSuchElementException, IllegalArgumentException, IllegalStateException]";
    private static final String ASKING = " [NoSuchElementException]";

    private static final Set<String> METHODS = Set.of(
            "public int tell[int, int, int, int]" + TELLING,
            "public int insert[int, int, int, int]" + TELLING,
            "public int remove[int, int]" + TELLING,
            "public int relate[int, int, int]" + TELLING,
            "public int drop[int, int]" + TELLING,
            "public int join[int, int]" + ASKING,
            "public int number[int] [NoSuchElementException, IllegalStateException]",
            "public int at[int, int, int, int]" + ASKING,
            "public int place[int, int, int]" + ASKING,
            "public int order[int, int, int]" + ASKING,
            "public int open[int, int]" + ASKING,
            "public boolean knows[int, int]" + ASKING,
            "public boolean equal[int, int]" + ASKING,
            "public int compact[] []",
            "public int about[int, int, int] [NoSuchElementException, IllegalArgumentException]",
            "public int count[int] [IllegalArgumentException]");

    public static void main(String[] args) throws IllegalAccessException {
        Class<?> c = TrenchMerge.class;
        Check.same("the class", "public final", Modifier.toString(c.getModifiers()));
        Check.same("the class above", "class java.lang.Object", String.valueOf(c.getSuperclass()));
        Check.same("interfaces", "[]", Arrays.toString(c.getInterfaces()));
        Check.same("constructors", "[public [] []]", constructors(c).toString());
        Check.same("methods", new TreeSet<>(METHODS).toString(), visibleMethods(c).toString());
        Check.same("constants", "[public static final int NONE -1]", visibleFields(c).toString());
        Check.same("private methods with a name of the face", "[]", doubleNames(c).toString());
        for (Class<?> inside : c.getDeclaredClasses()) {
            Check.same(inside + " is static", "true",
                    String.valueOf(Modifier.isStatic(inside.getModifiers())));
        }
        Check.finish();
    }

    private static boolean isVisible(Member member) {
        return !Modifier.isPrivate(member.getModifiers()) && !member.isSynthetic();
    }

    private static Set<String> constructors(Class<?> c) {
        Set<String> texts = new TreeSet<>();
        for (Constructor<?> made : c.getDeclaredConstructors()) {
            texts.add(Modifier.toString(made.getModifiers()) + " " + parametersAndExceptions(made));
        }
        return texts;
    }

    private static Set<String> visibleMethods(Class<?> c) {
        Set<String> texts = new TreeSet<>();
        for (Method m : c.getDeclaredMethods()) {
            if (isVisible(m)) {
                texts.add(Modifier.toString(m.getModifiers()) + " " + m.getReturnType() + " "
                        + m.getName() + parametersAndExceptions(m));
            }
        }
        return texts;
    }

    private static String parametersAndExceptions(Executable e) {
        return names(e.getParameterTypes()) + " " + names(e.getExceptionTypes());
    }

    private static String names(Class<?>[] types) {
        return Arrays.stream(types).map(Class::getSimpleName).collect(Collectors.toList()).toString();
    }

    private static Set<String> visibleFields(Class<?> c) throws IllegalAccessException {
        Set<String> texts = new TreeSet<>();
        for (Field f : c.getDeclaredFields()) {
            if (isVisible(f)) {
                Object value = Modifier.isStatic(f.getModifiers()) ? f.get(null) : "of an object";
                texts.add(Modifier.toString(f.getModifiers()) + " " + f.getType() + " " + f.getName()
                        + " " + value);
            }
        }
        return texts;
    }

    /** The language's first rule allows none. */
    private static Set<String> doubleNames(Class<?> c) {
        Set<String> visible = new TreeSet<>();
        Set<String> hidden = new TreeSet<>();
        for (Method m : c.getDeclaredMethods()) {
            (isVisible(m) ? visible : hidden).add(m.getName());
        }
        hidden.retainAll(visible);
        return hidden;
    }
}
