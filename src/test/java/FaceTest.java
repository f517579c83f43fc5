import java.lang.reflect.Constructor;
import java.lang.reflect.Field;
import java.lang.reflect.Method;
import java.lang.reflect.Modifier;
import java.util.Arrays;
import java.util.TreeSet;
import java.util.stream.Collectors;

/** The public face: what the document names can be seen from outside, and nothing else. */
final class FaceTest {
    private static final String[] METHODS = {
        "public void mark(int, int, int, int, int) throws IllegalArgumentException, IllegalStateException",
        "public int greatest(int, int) throws IllegalArgumentException",
        "public int write(int, int, int, boolean) throws IllegalArgumentException, IllegalStateException",
        "public int lines()",
        "public boolean mustComeBefore(int, int) throws IndexOutOfBoundsException",
        "public int lineAt(int) throws IndexOutOfBoundsException",
        "public long orders() throws IllegalStateException",
        "public int argue(int, int, boolean) throws IndexOutOfBoundsException, IllegalArgumentException",
        "public boolean isDoubtful(int) throws IndexOutOfBoundsException",
        "public int story()",
        "public int storyAt(int) throws IndexOutOfBoundsException",
        "public int earliest(int) throws IndexOutOfBoundsException",
        "public int firstOf(int) throws IllegalArgumentException",
        "public int measure(int, int, int, int) throws IllegalArgumentException, IllegalStateException",
        "public int impact(int) throws IllegalArgumentException",
        "public int minutes()",
        "public int addCause() throws IllegalStateException",
        "public int argueReason(int, int, int) throws IndexOutOfBoundsException,"
                + " IllegalArgumentException, IllegalStateException",
        "public boolean setStanding(int, boolean) throws IndexOutOfBoundsException",
        "public int roots(int) throws IndexOutOfBoundsException",
        "public int mainReason(int) throws IndexOutOfBoundsException",
    };

    private FaceTest() {
    }

    public static void main(String[] args) {
        Check.due("the class", Modifier.toString(OutageBook.class.getModifiers()), "public final");
        Check.due("NONE", OutageBook.NONE, -1);
        Check.due("UNBOUNDED", OutageBook.UNBOUNDED, 1000000);
        methods();
        fields();
        constructors();
        classesInside();
        Check.end("FaceTest");
    }

    private static String names(Class<?>[] classes) {
        return Arrays.stream(classes).map(Class::getSimpleName).collect(Collectors.joining(", "));
    }

    private static void methods() {
        TreeSet<String> seen = new TreeSet<>();
        TreeSet<String> publicNames = new TreeSet<>();
        TreeSet<String> privateNames = new TreeSet<>();
        for (Method method : OutageBook.class.getDeclaredMethods()) {
            if (Modifier.isPrivate(method.getModifiers())) {
                privateNames.add(method.getName());
                continue;
            }
            publicNames.add(method.getName());
            String thrown = names(method.getExceptionTypes());
            seen.add(Modifier.toString(method.getModifiers()) + " "
                    + method.getReturnType().getSimpleName() + " " + method.getName()
                    + "(" + names(method.getParameterTypes()) + ")"
                    + (thrown.isEmpty() ? "" : " throws " + thrown));
        }
        Check.due("the methods", seen, new TreeSet<>(Arrays.asList(METHODS)));
        for (Class<?> inside : OutageBook.class.getDeclaredClasses()) {
            for (Method method : inside.getDeclaredMethods()) {
                privateNames.add(method.getName());
            }
        }
        privateNames.retainAll(publicNames);
        Check.due("names used twice", privateNames, "[]");
    }

    private static void fields() {
        TreeSet<String> seen = new TreeSet<>();
        for (Field field : OutageBook.class.getDeclaredFields()) {
            if (!Modifier.isPrivate(field.getModifiers())) {
                seen.add(Modifier.toString(field.getModifiers()) + " " + field.getType() + " " + field.getName());
            }
            boolean isShared = Modifier.isStatic(field.getModifiers());
            Check.due(field + " is a constant or of an object",
                    !isShared || Modifier.isFinal(field.getModifiers()) && field.getType() == int.class, true);
        }
        Check.due("the constants", seen,
                "[public static final int NONE, public static final int UNBOUNDED]");
    }

    private static void constructors() {
        Constructor<?>[] seen = OutageBook.class.getDeclaredConstructors();
        Check.due("constructors", seen.length, 1);
        Check.due("the constructor", seen[0].toString(), "public OutageBook()");
    }

    private static void classesInside() {
        for (Class<?> inside : OutageBook.class.getDeclaredClasses()) {
            int modifiers = inside.getModifiers();
            Check.due(inside + " is private and static",
                    Modifier.isPrivate(modifiers) && Modifier.isStatic(modifiers), true);
        }
    }
}
