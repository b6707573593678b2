import java.io.IOException;
import java.net.URL;
import java.net.URLClassLoader;
import java.nio.file.Files;
import java.nio.file.Path;
import java.util.concurrent.Callable;
import java.util.regex.Matcher;
import java.util.regex.Pattern;
import javax.tools.ToolProvider;

/**
 * The program that README.md tells, from the making of an object to the last question: it compiles,
 * and each call answers what stands behind it. Runs in the project's folder.
 */
public final class ReadmeTest {
    private static final Path README = Path.of("README.md");
    private static final Pattern BLOCK = Pattern.compile("(?s)```java\n(.*?)```");
    private static final Pattern CALL =
            Pattern.compile("^(q\\.\\w+\\(.*\\));\\s*// (?:throws (\\w+)|([^\\s:]+))(?:: .*)?$");
    private static final Checks CHECKS = new Checks("ReadmeTest");

    /** What the program hands each of its calls to. */
    public interface Told {
        void call(String text, Callable<Object> call, String due);
    }

    private static void compare(String text, Callable<Object> call, String due) {
        String got;
        try {
            got = String.valueOf(call.call());
        } catch (Exception e) {
            got = e.getClass().getSimpleName();
        }
        CHECKS.is(text, got, due);
    }

    private static String lineOfProgram(String line) {
        Matcher call = CALL.matcher(line);
        if (!call.matches()) {
            CHECKS.is("nothing stands behind " + line, line.startsWith("q."), false);
            return line;
        }
        String due = call.group(2) == null ? call.group(3) : call.group(2);
        return "told.call(\"" + call.group(1) + "\", () -> " + call.group(1) + ", \"" + due + "\");";
    }

    private static String program() throws IOException {
        StringBuilder text = new StringBuilder("public final class ReadmeProgram {\n");
        text.append("public static void run(ReadmeTest.Told told) {\n");
        Matcher block = BLOCK.matcher(Files.readString(README));
        while (block.find()) {
            for (String line : block.group(1).split("\n")) {
                text.append(lineOfProgram(line)).append('\n');
            }
        }
        return text.append("}\n}\n").toString();
    }

    private static void run(Path folder) throws IOException, ReflectiveOperationException {
        Path source = folder.resolve("ReadmeProgram.java");
        Files.writeString(source, program());
        int fault = ToolProvider.getSystemJavaCompiler().run(null, null, null, "-cp",
                System.getProperty("java.class.path"), "-d", folder.toString(), source.toString());
        CHECKS.is("what javac says of README.md", fault, 0);
        if (fault != 0) {
            return;
        }
        try (URLClassLoader loader = new URLClassLoader(new URL[] {folder.toUri().toURL()})) {
            Told told = ReadmeTest::compare;
            loader.loadClass("ReadmeProgram").getMethod("run", Told.class).invoke(null, told);
        }
    }

    private static void everythingOnce() {
        try {
            Path folder = Files.createTempDirectory("readme");
            try {
                run(folder);
            } finally {
                for (String name : new String[] {"ReadmeProgram.java", "ReadmeProgram.class"}) {
                    Files.deleteIfExists(folder.resolve(name));
                }
                Files.delete(folder);
            }
        } catch (IOException | ReflectiveOperationException e) {
            throw new IllegalStateException(e);
        }
    }

    public static void main(String[] args) {
        CHECKS.under("Terms");
        CHECKS.sentence("Its calls: tables get rows; a query is written token by token, and read;"
                + " its conditions are rewritten, its tables are brought into another order, by what that"
                + " may cost; its rows are pulled, one by one, or all are told at once; and one asks what"
                + " was guessed, what was done, and what would be.", ReadmeTest::everythingOnce);
        CHECKS.end();
    }
}
