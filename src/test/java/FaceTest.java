import java.lang.reflect.Constructor;
import java.lang.reflect.Executable;
import java.lang.reflect.Field;
import java.lang.reflect.Method;
import java.lang.reflect.Modifier;
import java.util.Arrays;
import java.util.HashSet;
import java.util.Set;
import java.util.TreeSet;
import java.util.stream.Collectors;

/** The class has the document's public face, and no other member that can be seen from outside. */
public final class FaceTest {
    private static final String OUT = "IndexOutOfBoundsException";
    private static final String ARGUMENT = "IllegalArgumentException";
    private static final String STATE = "IllegalStateException";

    public static void main(String[] args) {
        Set<String> want = new TreeSet<>(Arrays.asList(
                "public FibrePairs()",
                "public static final int NONE",
                "public static final int FITS",
                "public void clear(int) " + ARGUMENT,
                "public int fibre(int,int,int) " + OUT + "," + ARGUMENT + "," + STATE,
                "public int request(int,int,boolean) " + OUT + "," + ARGUMENT + "," + STATE,
                "public void release(int) " + OUT,
                "public void lock(int,boolean) " + OUT + "," + STATE,
                "public void cut(int) " + OUT + "," + STATE,
                "public void mend(int) " + OUT + "," + STATE,
                "public void hold(int) " + ARGUMENT,
                "public void clock()",
                "public int path(int,boolean,int) " + OUT,
                "public int about(int,int) " + OUT + "," + ARGUMENT,
                "public int user(int,int) " + OUT,
                "public int move(int) " + OUT,
                "public int fits(int,int) " + OUT + "," + ARGUMENT,
                "public int bridge(int,int,int) " + OUT + "," + ARGUMENT,
                "public int exposed()",
                "public int count(int) " + ARGUMENT));
        Set<String> got = seenMembers();
        for (String member : want) {
            if (!got.contains(member)) {
                Checks.fail("missing: " + member);
            }
        }
        for (String member : got) {
            if (!want.contains(member)) {
                Checks.fail("not in the document: " + member);
            }
        }
        if (!Modifier.isFinal(FibrePairs.class.getModifiers())) {
            Checks.fail("the class is not final");
        }
        Checks.due("NONE", FibrePairs.NONE, -1);
        Checks.due("FITS", FibrePairs.FITS, -2);
        privateNamesDiffer();
        classesInside();
        Checks.end();
    }

    private static Set<String> seenMembers() {
        Set<String> seen = new TreeSet<>();
        for (Constructor<?> c : FibrePairs.class.getDeclaredConstructors()) {
            if (!Modifier.isPrivate(c.getModifiers())) {
                seen.add((Modifier.toString(c.getModifiers()) + " FibrePairs" + signature(c)).trim());
            }
        }
        for (Method m : FibrePairs.class.getDeclaredMethods()) {
            if (!Modifier.isPrivate(m.getModifiers())) {
                String result = m.getReturnType().getSimpleName();
                seen.add((Modifier.toString(m.getModifiers()) + " " + result + " " + m.getName() + signature(m)).trim());
            }
        }
        for (Field f : FibrePairs.class.getDeclaredFields()) {
            if (!Modifier.isPrivate(f.getModifiers())) {
                seen.add(Modifier.toString(f.getModifiers()) + " " + f.getType().getSimpleName() + " " + f.getName());
            }
        }
        return seen;
    }

    private static String signature(Executable e) {
        return "(" + names(e.getParameterTypes()) + ") " + names(e.getExceptionTypes());
    }

    private static String names(Class<?>[] types) {
        return Arrays.stream(types).map(Class::getSimpleName).collect(Collectors.joining(","));
    }

    private static void privateNamesDiffer() {
        Set<String> face = new HashSet<>();
        for (Method m : FibrePairs.class.getMethods()) {
            face.add(m.getName());
        }
        for (Method m : FibrePairs.class.getDeclaredMethods()) {
            if (Modifier.isPrivate(m.getModifiers()) && face.contains(m.getName())) {
                Checks.fail("a private method bears the name of a public one: " + m.getName());
            }
        }
    }

    private static void classesInside() {
        for (Class<?> inside : FibrePairs.class.getDeclaredClasses()) {
            int how = inside.getModifiers();
            if (Modifier.isPublic(how) || Modifier.isProtected(how) || !Modifier.isStatic(how)) {
                Checks.fail("not private or package-visible, and static: " + inside.getName());
            }
        }
    }
}
