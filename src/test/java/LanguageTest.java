import java.io.IOException;
import java.lang.reflect.Field;
import java.lang.reflect.Method;
import java.lang.reflect.Modifier;
import java.nio.file.Files;
import java.nio.file.Path;
import java.util.ArrayList;
import java.util.List;
import java.util.Set;
import java.util.regex.Matcher;
import java.util.regex.Pattern;

/** The rules of LANGUAGE.md that can be seen from the source's words and the class's members. */
public final class LanguageTest {
    private static final Path SOURCE = Path.of("src/main/java/FibrePairs.java");
    private static final Set<String> IMPORTS = Set.of("java.util.ArrayList", "java.util.List", "java.util.Arrays",
            "java.util.Iterator", "java.util.NoSuchElementException");
    private static final Set<String> EXCEPTIONS = Set.of("IllegalStateException", "IllegalArgumentException",
            "IndexOutOfBoundsException", "ArithmeticException", "UnsupportedOperationException",
            "NoSuchElementException", "RuntimeException");
    private static final Set<String> ARRAYS = Set.of("copyOf", "copyOfRange", "fill");
    private static final Set<Class<?>> CONSTANTS = Set.of(int.class, long.class, boolean.class, char.class,
            String.class, int[].class, long[].class, char[].class, byte[].class);

    public static void main(String[] args) throws IOException {
        String code = withoutCommentsAndTexts(Files.readString(SOURCE));
        imports(code);
        words(code);
        library(code);
        exceptions(code);
        methodLengths(code);
        List<Class<?>> classes = new ArrayList<>(List.of(FibrePairs.class.getDeclaredClasses()));
        classes.add(FibrePairs.class);
        most("rule 11, classes", classes.size(), 12);
        for (Class<?> one : classes) {
            fields(one);
            methods(one);
        }
        Checks.end();
    }

    private static void most(String what, int got, int most) {
        if (got > most) {
            Checks.fail(what + ": " + got + " are more than " + most);
        }
    }

    private static String withoutCommentsAndTexts(String source) {
        String texts = source.replaceAll("\"(\\\\.|[^\"\\\\])*\"", "\"\"");
        return texts.replaceAll("(?s)/\\*.*?\\*/", " ").replaceAll("//[^\n]*", " ");
    }

    private static void imports(String code) {
        Matcher found = Pattern.compile("(?m)^\\s*import\\s+([^;]+);").matcher(code);
        while (found.find()) {
            if (!IMPORTS.contains(found.group(1))) {
                Checks.fail("rule 4, import " + found.group(1));
            }
        }
    }

    private static void words(String code) {
        String never = "package|finally|synchronized|assert|protected|native|volatile|transient|strictfp"
                + "|hashCode|toString|getMessage|NaN|Random|Thread|Runtime|Class|Object|nanoTime|currentTimeMillis";
        Matcher found = Pattern.compile("\\b(" + never + ")\\b|->|::|\\w+Exact\\b|\\bstatic\\s*\\{").matcher(code);
        while (found.find()) {
            Checks.fail("outside the rules: " + found.group());
        }
    }

    private static void library(String code) {
        Matcher found = Pattern.compile("\\b(Arrays|Integer|Long|Math|System)\\s*\\.\\s*(\\w+)\\s*(\\(?)").matcher(code);
        while (found.find()) {
            String owner = found.group(1);
            String name = found.group(2);
            boolean allowed = found.group(3).equals("(")
                    && (!owner.equals("Arrays") || ARRAYS.contains(name))
                    && (!owner.equals("System") || name.equals("arraycopy"));
            if (!allowed) {
                Checks.fail("rule 4, " + owner + "." + name);
            }
        }
    }

    private static void exceptions(String code) {
        Matcher found = Pattern.compile("\\bthrow\\b(?:\\s+new\\s+(\\w+)\\((?:\"\")?\\)\\s*;)?").matcher(code);
        while (found.find()) {
            if (found.group(1) == null || !EXCEPTIONS.contains(found.group(1))) {
                Checks.fail("rule 6, a throw that is not of its form: " + found.group());
            }
        }
    }

    /** A method's first line has its modifiers and a bracket; its last one is the next brace that stands as far in. */
    private static void methodLengths(String code) {
        String[] lines = code.split("\n");
        Pattern head = Pattern.compile("^( +)(public |private |static |final )+[\\w\\[\\]]*.*\\(.*");
        for (int line = 0; line < lines.length; line++) {
            Matcher found = head.matcher(lines[line]);
            if (!found.matches() || lines[line].contains("=")) {
                continue;
            }
            int end = line;
            while (end < lines.length - 1 && !lines[end].equals(found.group(1) + "}")) {
                end++;
            }
            most("rule 11, lines of the method that begins with" + lines[line], end - line + 1, 60);
        }
    }

    private static void fields(Class<?> one) {
        int ofObjects = 0;
        for (Field field : one.getDeclaredFields()) {
            if (!Modifier.isStatic(field.getModifiers())) {
                ofObjects++;
            } else if (!Modifier.isFinal(field.getModifiers())) {
                Checks.fail("rule 5, static and not final: " + field);
            } else if (!one.isEnum() && !CONSTANTS.contains(field.getType())) {
                Checks.fail("rule 5, no constant: " + field);
            }
        }
        most("rule 11, fields of " + one.getName(), ofObjects, 20);
    }

    private static void methods(Class<?> one) {
        for (Method method : one.getDeclaredMethods()) {
            most("rule 11, parameters of " + method, method.getParameterCount(), 7);
        }
    }
}
