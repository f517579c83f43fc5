import java.io.IOException;
import java.nio.file.Files;
import java.nio.file.Path;
import java.util.regex.Matcher;
import java.util.regex.Pattern;

/** The rules of LANGUAGE.md that can be seen in the text of the program. */
final class SourceTest {
    private static final String[] FORBIDDEN = {
        "\\bpackage\\b", "\\bimport (?!java\\.util\\.)", "\\bfinally\\b", "\\bsynchronized\\b",
        "\\bassert\\b", "::", "\\) *->", "\\bprotected\\b", "\\bSystem\\.(?!arraycopy)", "\\bThread\\b",
        "\\bRandom\\b", "Exact\\(", "static\\s*\\{", "extends \\w*Exception", "[^\\x00-\\x7f]",
    };

    private SourceTest() {
    }

    public static void main(String[] args) throws IOException {
        String source = Files.readString(Path.of("src/main/java/OutageBook.java"));
        String code = source.replaceAll("(?s)/\\*.*?\\*/", "").replaceAll("//[^\n]*", "")
                .replaceAll("\"[^\"\n]*\"", "\"\"");
        for (String forbidden : FORBIDDEN) {
            Check.due("the program has " + forbidden, Pattern.compile(forbidden).matcher(code).find(), false);
        }
        exceptions(code);
        arraysMadeOnce(code);
        Check.end("SourceTest");
    }

    private static void exceptions(String code) {
        String one = "throw new (IllegalArgument|IllegalState|IndexOutOfBounds)Exception\\(\"\"\\);";
        String rest = code.replaceAll(one, "");
        Check.due("other throws", Pattern.compile("\\bthrow\\b").matcher(rest).find(), false);
    }

    /** Nothing is made in a call: all of a book's rows and parts are those of its fields. */
    private static void arraysMadeOnce(String code) {
        String fields = "private final [\\w\\[\\]]+ \\w+ = new [^;]+;";
        String rest = code.replaceAll(fields, "").replaceAll("throw new ", "");
        Matcher made = Pattern.compile("\\bnew\\b[^;]*").matcher(rest);
        Check.due("made in a call", made.find() ? made.group() : "nothing", "nothing");
    }
}
