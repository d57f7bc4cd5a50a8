import java.lang.reflect.Constructor;
import java.lang.reflect.Field;
import java.lang.reflect.Method;
import java.lang.reflect.Modifier;
import java.util.Arrays;
import java.util.Set;
import java.util.TreeSet;

/** The class shows just the document's face, and keeps rules 1 and 5 of LANGUAGE.md on members. */
public final class FaceTest {
    private static final String[] FACE = {
        "int addCode(int, int, int, int) throws IllegalArgumentException, IllegalStateException",
        "int dropCode(int) throws IndexOutOfBoundsException",
        "int codes()",
        "int lengthOf(int) throws IndexOutOfBoundsException",
        "int write(int) throws IllegalArgumentException, IllegalStateException",
        "int strike() throws IllegalStateException",
        "int clear()",
        "int words()",
        "int typeOf(int) throws IndexOutOfBoundsException",
        "int groups()",
        "int codeOf(int) throws IndexOutOfBoundsException",
        "int startOf(int) throws IndexOutOfBoundsException",
        "int usesOf(int) throws IndexOutOfBoundsException",
        "int counted()",
        "int cost()",
        "int saved()",
        "int setQuality(int) throws IllegalArgumentException",
        "int send() throws IllegalStateException",
        "int sentGroups()",
        "int repeats()",
        "int lost()",
        "int earned()",
        "int untilGarbled()",
        "int wouldBeGarbled()",
        "int repeatsIfSent()",
        "int qualityWanted()",
        "int uselessCode()",
        "int bestNewCode(int) throws IllegalArgumentException",
        "double meanLength()",
        "long digest()",
    };

    private static int wrong = 0;

    private static void check(boolean right, String what) {
        if (!right) {
            wrong++;
            System.out.println("face: " + what);
        }
    }

    private static String names(Class<?>[] classes) {
        StringBuilder text = new StringBuilder();
        for (Class<?> one : classes) {
            text.append(text.length() == 0 ? "" : ", ").append(one.getSimpleName());
        }
        return text.toString();
    }

    private static String told(Method method) {
        String text = method.getReturnType().getSimpleName() + " " + method.getName()
                + "(" + names(method.getParameterTypes()) + ")";
        Class<?>[] thrown = method.getExceptionTypes();
        return thrown.length == 0 ? text : text + " throws " + names(thrown);
    }

    public static void main(String[] args) {
        Class<?> desk = TelegraphDesk.class;
        check(Modifier.isFinal(desk.getModifiers()) && Modifier.isPublic(desk.getModifiers()), "public final class");
        check(desk.getSuperclass() == Object.class && desk.getInterfaces().length == 0, "no other type above it");

        Set<String> due = new TreeSet<>(Arrays.asList(FACE));
        Set<String> got = new TreeSet<>();
        Set<String> publicNames = new TreeSet<>();
        for (Method method : desk.getDeclaredMethods()) {
            if (!Modifier.isPrivate(method.getModifiers()) && !method.isSynthetic()) {
                got.add(told(method));
                publicNames.add(method.getName());
                check(Modifier.isPublic(method.getModifiers()) && !Modifier.isStatic(method.getModifiers()),
                        "public, of the object: " + told(method));
            }
        }
        check(due.equals(got), "due are " + due + ", there are " + got);
        for (Method method : desk.getDeclaredMethods()) {
            check(!Modifier.isPrivate(method.getModifiers()) || !publicNames.contains(method.getName()),
                    "a private method bears the name of a public one: " + method.getName());
        }
        Constructor<?>[] constructors = desk.getDeclaredConstructors();
        check(constructors.length == 1 && Modifier.isPublic(constructors[0].getModifiers())
                && constructors[0].getParameterCount() == 0, "one public constructor");
        for (Field field : desk.getDeclaredFields()) {
            check(Modifier.isPrivate(field.getModifiers()), "a field that is not private: " + field.getName());
            check(!Modifier.isStatic(field.getModifiers()) || Modifier.isFinal(field.getModifiers()),
                    "a static field that is not final: " + field.getName());
        }
        for (Class<?> inside : desk.getDeclaredClasses()) {
            check(!Modifier.isPublic(inside.getModifiers()) && !Modifier.isProtected(inside.getModifiers())
                    && Modifier.isStatic(inside.getModifiers()), "a class inside is static and not shown: " + inside);
        }
        System.out.println(wrong == 0 ? "the face is as due" : wrong + " faults of the face");
        if (wrong != 0) {
            System.exit(1);
        }
    }
}
