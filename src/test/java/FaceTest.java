import java.io.IOException;
import java.lang.reflect.Constructor;
import java.lang.reflect.Field;
import java.lang.reflect.Method;
import java.lang.reflect.Modifier;
import java.nio.file.Files;
import java.nio.file.Path;
import java.util.ArrayList;
import java.util.Arrays;
import java.util.List;
import java.util.TreeSet;
import java.util.regex.Matcher;
import java.util.regex.Pattern;
import java.util.stream.Collectors;

/** The public face: what the document names can be seen from outside, and nothing else. */
final class FaceTest {
    private static final String[] METHODS = {
        "public void mark(int, int, int, int, int) throws IllegalArgumentException, IllegalStateException",
        "public int greatest(int, int) throws IllegalArgumentException",
        "public int write(int, int, int, boolean) throws IllegalArgumentException, IllegalStateException",
        "public int lines()",
        "public boolean mustComeBefore(int, int) throws IndexOutOfBoundsException",
        "public int lineAt(int) throws IndexOutOfBoundsException",
        "public long orders() throws IllegalStateException",
        "public int argue(int, int, boolean) throws IndexOutOfBoundsException, IllegalArgumentException",
        "public boolean isDoubtful(int) throws IndexOutOfBoundsException",
        "public int story()",
        "public int storyAt(int) throws IndexOutOfBoundsException",
        "public int earliest(int) throws IndexOutOfBoundsException",
        "public int firstOf(int) throws IllegalArgumentException",
        "public int measure(int, int, int, int) throws IllegalArgumentException, IllegalStateException",
        "public int impact(int) throws IllegalArgumentException",
        "public int minutes()",
        "public int addCause() throws IllegalStateException",
        "public int argueReason(int, int, int) throws IndexOutOfBoundsException,"
                + " IllegalArgumentException, IllegalStateException",
        "public boolean setStanding(int, boolean) throws IndexOutOfBoundsException",
        "public int roots(int) throws IndexOutOfBoundsException",
        "public int mainReason(int) throws IndexOutOfBoundsException",
    };

    private FaceTest() {
    }

    public static void main(String[] args) throws IOException {
        Check.due("the class", Modifier.toString(OutageBook.class.getModifiers()), "public final");
        Check.due("NONE", OutageBook.NONE, -1);
        Check.due("UNBOUNDED", OutageBook.UNBOUNDED, 1000000);
        methods();
        fields();
        constructors();
        classesInside();
        asTheDocumentHasIt();
        Check.end("FaceTest");
    }

    /** The program has each line of the document's face, word for word and in its order. */
    private static void asTheDocumentHasIt() throws IOException {
        List<String> document = Files.readAllLines(Path.of("../shared/DOC.md"));
        String program = Files.readString(Path.of("src/main/java/OutageBook.java")).replaceAll("\\s+", " ");
        List<String> face = new ArrayList<>();
        List<String> parts = new ArrayList<>();
        for (String line : document) {
            String told = line.strip();
            if (told.startsWith("public ")) {
                face.add(told.contains("(") ? told.replaceFirst(";$", " {") : told);
            } else if (told.startsWith("Ahead of the calls ")) {
                addPart(parts, told);
            }
        }
        Check.due("lines of the face", face.size(), METHODS.length + 4);
        Check.due("parts and their calls", parts.size(), METHODS.length + 4);
        dueInOrder(program, face);
        dueInOrder(program, parts);
    }

    /** The comment that stands ahead of calls, and the calls behind it. */
    private static void addPart(List<String> parts, String told) {
        parts.add("// " + told.replaceFirst(".* the interface says: (---- \\w+)\\.$", "$1") + " public ");
        Matcher call = Pattern.compile("`(\\w+)`").matcher(told);
        while (call.find()) {
            parts.add(" " + call.group(1) + "(");
        }
    }

    private static void dueInOrder(String program, List<String> texts) {
        int at = -1;
        for (String text : texts) {
            int next = program.indexOf(text, at + 1);
            Check.due("the program has in its place: " + text, next >= 0, true);
            at = Math.max(at, next);
        }
    }

    private static String names(Class<?>[] classes) {
        return Arrays.stream(classes).map(Class::getSimpleName).collect(Collectors.joining(", "));
    }

    private static void methods() {
        TreeSet<String> seen = new TreeSet<>();
        TreeSet<String> publicNames = new TreeSet<>();
        TreeSet<String> privateNames = new TreeSet<>();
        for (Method method : OutageBook.class.getDeclaredMethods()) {
            if (Modifier.isPrivate(method.getModifiers())) {
                privateNames.add(method.getName());
                continue;
            }
            publicNames.add(method.getName());
            String thrown = names(method.getExceptionTypes());
            seen.add(Modifier.toString(method.getModifiers()) + " "
                    + method.getReturnType().getSimpleName() + " " + method.getName()
                    + "(" + names(method.getParameterTypes()) + ")"
                    + (thrown.isEmpty() ? "" : " throws " + thrown));
        }
        Check.due("the methods", seen, new TreeSet<>(Arrays.asList(METHODS)));
        for (Class<?> inside : OutageBook.class.getDeclaredClasses()) {
            for (Method method : inside.getDeclaredMethods()) {
                privateNames.add(method.getName());
            }
        }
        privateNames.retainAll(publicNames);
        Check.due("names used twice", privateNames, "[]");
    }

    private static void fields() {
        TreeSet<String> seen = new TreeSet<>();
        for (Field field : OutageBook.class.getDeclaredFields()) {
            if (!Modifier.isPrivate(field.getModifiers())) {
                seen.add(Modifier.toString(field.getModifiers()) + " " + field.getType() + " " + field.getName());
            }
            boolean isShared = Modifier.isStatic(field.getModifiers());
            Check.due(field + " is a constant or of an object",
                    !isShared || Modifier.isFinal(field.getModifiers()) && field.getType() == int.class, true);
        }
        Check.due("the constants", seen,
                "[public static final int NONE, public static final int UNBOUNDED]");
    }

    private static void constructors() {
        Constructor<?>[] seen = OutageBook.class.getDeclaredConstructors();
        Check.due("constructors", seen.length, 1);
        Check.due("the constructor", seen[0].toString(), "public OutageBook()");
    }

    private static void classesInside() {
        for (Class<?> inside : OutageBook.class.getDeclaredClasses()) {
            int modifiers = inside.getModifiers();
            Check.due(inside + " is private and static",
                    Modifier.isPrivate(modifiers) && Modifier.isStatic(modifiers), true);
        }
    }
}
