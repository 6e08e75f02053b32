import java.io.IOException;
import java.lang.reflect.InvocationTargetException;
import java.lang.reflect.Method;
import java.nio.file.Files;
import java.nio.file.Path;
import java.util.HashMap;
import java.util.HashSet;
import java.util.Map;
import java.util.Set;
import java.util.regex.Matcher;
import java.util.regex.Pattern;

/** The example in README.md is true: each call there answers what its comment says; every call is told. */
public final class ReadmeTest {
    private static final Pattern CALL =
            Pattern.compile("^(?:int (\\w+) = )?desk\\.(\\w+)\\((.*?)\\);\\s*(?://\\s*(-?\\d+|throws\\.\\w+)?.*)?$");

    private static final Map<String, Integer> named = new HashMap<>();
    private static FibrePairs desk = null;
    private static int played = 0;

    public static void main(String[] args) throws IOException {
        String readme = Files.readString(Path.of("README.md"));
        for (String line : readme.split("\n")) {
            if (line.equals("FibrePairs desk = new FibrePairs();")) {
                desk = new FibrePairs();
                named.clear();
            }
            Matcher call = CALL.matcher(line);
            if (call.matches()) {
                play(line, call);
            }
        }
        if (played < 20) {
            Checks.fail("README.md has an example of only " + played + " calls");
        }
        everyCallIsTold(readme);
        Checks.end();
    }

    private static void play(String line, Matcher call) {
        played++;
        Method method = methodOf(call.group(2));
        if (desk == null || method == null) {
            Checks.fail("README.md has a call that is not there: " + line);
            return;
        }
        String answer = answer(method, arguments(call.group(3)));
        if (call.group(1) != null) {
            named.put(call.group(1), Integer.valueOf(answer));
        }
        if (call.group(4) != null) {
            Checks.due("README.md: " + line, answer, call.group(4));
        }
    }

    private static Method methodOf(String name) {
        for (Method method : FibrePairs.class.getDeclaredMethods()) {
            if (method.getName().equals(name)) {
                return method;
            }
        }
        return null;
    }

    private static Object[] arguments(String text) {
        if (text.isEmpty()) {
            return new Object[0];
        }
        String[] words = text.split(",\\s*");
        Object[] values = new Object[words.length];
        for (int i = 0; i < words.length; i++) {
            values[i] = value(words[i]);
        }
        return values;
    }

    private static Object value(String word) {
        if (word.equals("true") || word.equals("false")) {
            return Boolean.valueOf(word);
        }
        return named.containsKey(word) ? named.get(word) : Integer.valueOf(word);
    }

    private static String answer(Method method, Object[] arguments) {
        try {
            return String.valueOf(method.invoke(desk, arguments));
        } catch (InvocationTargetException e) {
            return "throws." + e.getCause().getClass().getSimpleName();
        } catch (IllegalAccessException e) {
            return "not to be called";
        }
    }

    private static void everyCallIsTold(String readme) {
        Set<String> told = new HashSet<>();
        Matcher row = Pattern.compile("(?m)^\\| `(\\w+)\\(").matcher(readme);
        while (row.find()) {
            told.add(row.group(1));
        }
        for (Method method : FibrePairs.class.getMethods()) {
            if (method.getDeclaringClass() == FibrePairs.class && !told.contains(method.getName())) {
                Checks.fail("README.md does not tell of " + method.getName());
            }
        }
    }
}
