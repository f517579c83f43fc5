import java.io.IOException;
import java.lang.reflect.Field;
import java.lang.reflect.Method;
import java.lang.reflect.Modifier;
import java.nio.file.Files;
import java.nio.file.Path;
import java.util.ArrayList;
import java.util.List;
import java.util.regex.Matcher;
import java.util.regex.Pattern;

/** The rules of LANGUAGE.md that can be seen in the text of the program. */
final class SourceTest {
    private static final String[] FORBIDDEN = {
        "\\bpackage\\b", "\\bimport (?!java\\.util\\.)", "\\bfinally\\b", "\\bsynchronized\\b",
        "\\bassert\\b", "::", "\\) *->", "\\bprotected\\b", "\\bSystem\\.(?!arraycopy)", "\\bThread\\b",
        "\\bRandom\\b", "Exact\\(", "static\\s*\\{", "extends \\w*Exception", "[^\\x00-\\x7f]",
        "\\bcatch\\b", "\" *\\+", "\\+ *\"", "\\bMath\\.(?!(min|max)\\()", "\\b(double|float)\\b", "@\\w",
    };
    private static final int MOST_PARAMETERS = 7;
    private static final int MOST_LINES = 60;
    private static final int MOST_CLASSES = 12;
    private static final int MOST_FIELDS = 20;

    private SourceTest() {
    }

    public static void main(String[] args) throws IOException {
        String source = Files.readString(Path.of("src/main/java/OutageBook.java"));
        String code = source.replaceAll("(?s)/\\*.*?\\*/", "").replaceAll("//[^\n]*", "")
                .replaceAll("\"[^\"\n]*\"", "\"\"");
        for (String forbidden : FORBIDDEN) {
            Check.due("the program has " + forbidden, Pattern.compile(forbidden).matcher(code).find(), false);
        }
        exceptions(code);
        arraysMadeOnce(code);
        classesAreSmall();
        methodsAreShort(code);
        Check.end("SourceTest");
    }

    private static void classesAreSmall() {
        List<Class<?>> classes = new ArrayList<>(List.of(OutageBook.class.getDeclaredClasses()));
        classes.add(OutageBook.class);
        Check.due("few classes: " + classes.size(), classes.size() <= MOST_CLASSES, true);
        for (Class<?> one : classes) {
            int fields = 0;
            for (Field field : one.getDeclaredFields()) {
                fields += Modifier.isStatic(field.getModifiers()) ? 0 : 1;
            }
            Check.due("few fields in " + one, fields <= MOST_FIELDS, true);
            for (Method method : one.getDeclaredMethods()) {
                boolean areFew = method.getParameterCount() <= MOST_PARAMETERS;
                Check.due("few parameters of " + method, areFew, true);
            }
        }
    }

    /** A method ends with the first brace that stands as far in as its first line. */
    private static void methodsAreShort(String code) {
        Pattern method = Pattern.compile("(?m)^( +)[\\w\\[\\] ]+\\([^;{]*\\{\\n");
        Matcher start = method.matcher(code);
        int methods = 0;
        while (start.find()) {
            int end = code.indexOf("\n" + start.group(1) + "}\n", start.end() - 1);
            long lines = end < 0 ? MOST_LINES + 1 : code.substring(start.start(), end).lines().count() + 1;
            Check.due("short: " + start.group().strip(), lines <= MOST_LINES, true);
            methods++;
        }
        Check.due("methods are found", methods > 21, true);
    }

    private static void exceptions(String code) {
        String one = "throw new (IllegalArgument|IllegalState|IndexOutOfBounds)Exception\\(\"\"\\);";
        String rest = code.replaceAll(one, "");
        Check.due("other throws", Pattern.compile("\\bthrow\\b").matcher(rest).find(), false);
    }

    /** Nothing is made in a call: all of a book's rows and parts are those of its fields. */
    private static void arraysMadeOnce(String code) {
        String fields = "private final [\\w\\[\\]]+ \\w+ = new [^;]+;";
        String rest = code.replaceAll(fields, "").replaceAll("throw new ", "");
        Matcher made = Pattern.compile("\\bnew\\b[^;]*").matcher(rest);
        Check.due("made in a call", made.find() ? made.group() : "nothing", "nothing");
    }
}
