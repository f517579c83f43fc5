import java.io.IOException;
import java.net.URL;
import java.net.URLClassLoader;
import java.nio.file.Files;
import java.nio.file.Path;
import java.util.ArrayList;
import java.util.List;
import java.util.function.Supplier;
import javax.tools.ToolProvider;

/**
 * The example of README.md: it is compiled and run as it stands there, and each call answers what the
 * comment behind it says, up to a colon. A call without an answer has a comment that tells what it does.
 */
final class ReadmeTest {
    private static final Path README = Path.of("README.md");

    private final List<String> calls = new ArrayList<>();
    private final List<String> wanted = new ArrayList<>();
    private final StringBuilder source = new StringBuilder();

    private ReadmeTest() {
    }

    public static void main(String[] args) throws IOException, ReflectiveOperationException {
        String readme = Files.readString(README);
        Check.due("how the tests are run", readme.contains("    .ci/run\n"), true);
        ReadmeTest test = new ReadmeTest();
        test.read(readme);
        test.dueAnswers();
        test.dueEachMethod();
        Check.end("ReadmeTest");
    }

    private void read(String readme) {
        source.append("import java.util.*;\n")
                .append("public final class ReadmeExample implements java.util.function.Supplier<List<String>> {\n")
                .append("public List<String> get() {\nList<String> answers = new ArrayList<>();\n");
        int start = readme.indexOf("```java\n") + 8;
        for (String line : readme.substring(start, readme.indexOf("```", start)).split("\n")) {
            String[] parts = line.split("//", 2);
            String code = parts[0].trim();
            if (code.contains("new OutageBook()")) {
                source.append(code).append('\n');
            } else if (!code.isEmpty()) {
                Check.due("a comment behind " + code, parts.length, 2);
                addCall(code, parts[parts.length - 1].trim());
            }
        }
        source.append("return answers;\n}\n}\n");
    }

    private void addCall(String code, String comment) {
        boolean isMark = code.startsWith("book.mark(");
        boolean isThrown = comment.startsWith("throws ");
        calls.add(code);
        wanted.add(isMark && !isThrown ? "done" : comment.split(":", 2)[0].trim());
        if (code.startsWith("int ")) {
            String name = code.substring(4, code.indexOf(" ="));
            source.append(code).append("\nanswers.add(\"\" + ").append(name).append(");\n");
            return;
        }
        String call = code.replaceFirst(";$", "");
        source.append("try {\n");
        source.append(isMark ? call + "; answers.add(\"done\");" : "answers.add(\"\" + " + call + ");");
        source.append("\n} catch (RuntimeException e) {\n")
                .append("answers.add(\"throws \" + e.getClass().getSimpleName());\n}\n");
    }

    private void dueAnswers() throws IOException, ReflectiveOperationException {
        List<String> answers = run();
        Check.due("the number of answers", answers.size(), calls.size());
        for (int at = 0; at < answers.size() && at < calls.size(); at++) {
            Check.due(calls.get(at), answers.get(at), wanted.get(at));
        }
    }

    private List<String> run() throws IOException, ReflectiveOperationException {
        Path made = Files.createTempDirectory("readme");
        Path file = made.resolve("ReadmeExample.java");
        Files.writeString(file, source);
        int code = ToolProvider.getSystemJavaCompiler().run(null, null, null, "-proc:none",
                "-cp", System.getProperty("java.class.path"), "-d", made.toString(), file.toString());
        Check.due("the example compiles", code, 0);
        if (code != 0) {
            return List.of();
        }
        try (URLClassLoader loader = new URLClassLoader(new URL[] {made.toUri().toURL()})) {
            return answersOf(loader.loadClass("ReadmeExample").getConstructor().newInstance());
        } finally {
            for (String name : new String[] {"ReadmeExample.java", "ReadmeExample.class", ""}) {
                Files.deleteIfExists(made.resolve(name));
            }
        }
    }

    private static List<String> answersOf(Object example) {
        List<String> answers = new ArrayList<>();
        if (example instanceof Supplier<?> supplier && supplier.get() instanceof List<?> list) {
            for (Object answer : list) {
                answers.add(String.valueOf(answer));
            }
        }
        return answers;
    }

    /** Who reads the example has seen each method once. */
    private void dueEachMethod() {
        for (var method : OutageBook.class.getMethods()) {
            boolean isOwn = method.getDeclaringClass() == OutageBook.class;
            boolean isShown = calls.stream().anyMatch(call -> call.contains("book." + method.getName() + "("));
            Check.due(method.getName() + " is in the example", isShown || !isOwn, true);
        }
    }
}
