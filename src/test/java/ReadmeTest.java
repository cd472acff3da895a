import java.io.IOException;
import java.lang.reflect.InvocationTargetException;
import java.lang.reflect.Method;
import java.lang.reflect.Modifier;
import java.nio.file.Files;
import java.nio.file.Path;
import java.util.HashMap;
import java.util.List;
import java.util.Map;
import java.util.Set;
import java.util.TreeSet;
import java.util.regex.Matcher;
import java.util.regex.Pattern;

/** What README.md shows is what the class answers, and no call of the face is left out there. */
public final class ReadmeTest {
    private static final Pattern CALL =
            Pattern.compile("(?:int (\\w+) = )?x\\.(\\w+)\\((.*?)\\); +// ([-\\w]+)(?::.*)?");
    private static final Pattern NAMED = Pattern.compile("- `(\\w+ \\w+\\(.*?\\))`: .*");

    private final Map<String, Integer> values = new HashMap<>();
    private final TrenchMerge x = new TrenchMerge();

    private ReadmeTest() {
        values.put("TrenchMerge.NONE", TrenchMerge.NONE);
    }

    public static void main(String[] args) throws IOException, ReflectiveOperationException {
        List<String> lines = Files.readAllLines(Path.of("README.md"));
        Check.same("calls of the example", faceNames().toString(), new ReadmeTest().run(lines).toString());
        Check.same("calls that are told of", faceSignatures().toString(), named(lines).toString());
        Check.finish();
    }

    /** Makes every call of the example, and answers the names of those that it made. */
    private Set<String> run(List<String> lines) throws ReflectiveOperationException {
        Set<String> names = new TreeSet<>();
        int start = lines.indexOf("```java") + 1;
        List<String> example = lines.subList(start, start + lines.subList(start, lines.size()).indexOf("```"));
        Check.same("the example's first line", "TrenchMerge x = new TrenchMerge();", example.get(0));
        for (String line : example.subList(1, example.size())) {
            Matcher call = CALL.matcher(line);
            Check.same("a call with its answer: " + line, "true", String.valueOf(call.matches()));
            if (call.matches()) {
                names.add(call.group(2));
                make(call);
            }
        }
        return names;
    }

    private void make(Matcher call) throws ReflectiveOperationException {
        String[] texts = call.group(3).isEmpty() ? new String[0] : call.group(3).split(", ");
        Object[] arguments = new Object[texts.length];
        for (int i = 0; i < texts.length; i++) {
            Integer value = values.get(texts[i]);
            arguments[i] = value == null ? Integer.valueOf(texts[i]) : value;
        }
        String answer = answer(faceMethod(call.group(2)), arguments);
        Check.same("README.md: " + call.group(2) + "(" + call.group(3) + ")", call.group(4), answer);
        if (call.group(1) != null) {
            values.put(call.group(1), Integer.valueOf(call.group(4)));
        }
    }

    private String answer(Method method, Object[] arguments) throws ReflectiveOperationException {
        try {
            return String.valueOf(method.invoke(x, arguments));
        } catch (InvocationTargetException e) {
            return "throws." + e.getCause().getClass().getSimpleName();
        }
    }

    private static Method faceMethod(String name) throws NoSuchMethodException {
        for (Method m : TrenchMerge.class.getDeclaredMethods()) {
            if (Modifier.isPublic(m.getModifiers()) && m.getName().equals(name)) {
                return m;
            }
        }
        throw new NoSuchMethodException(name);
    }

    private static Set<String> faceNames() {
        Set<String> names = new TreeSet<>();
        for (Method m : TrenchMerge.class.getDeclaredMethods()) {
            if (Modifier.isPublic(m.getModifiers())) {
                names.add(m.getName());
            }
        }
        return names;
    }

    private static Set<String> faceSignatures() {
        Set<String> signatures = new TreeSet<>();
        for (Method m : TrenchMerge.class.getDeclaredMethods()) {
            if (Modifier.isPublic(m.getModifiers())) {
                signatures.add(m.getReturnType() + " " + m.getName() + "/" + m.getParameterCount());
            }
        }
        return signatures;
    }

    private static Set<String> named(List<String> lines) {
        Set<String> signatures = new TreeSet<>();
        for (String line : lines) {
            Matcher named = NAMED.matcher(line);
            if (named.matches() && !named.group(1).startsWith("new ")) {
                String signature = signature(named.group(1));
                Check.same(signature + " is told of once", "true", String.valueOf(signatures.add(signature)));
            }
        }
        return signatures;
    }

    /** "int at(int desk, ..)" in the form of faceSignatures. */
    private static String signature(String text) {
        int open = text.indexOf('(');
        String parameters = text.substring(open + 1, text.length() - 1);
        int count = parameters.isEmpty() ? 0 : parameters.split(", ").length;
        return text.substring(0, open) + "/" + count;
    }
}
