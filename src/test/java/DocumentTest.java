import java.io.IOException;
import java.nio.file.Files;
import java.nio.file.Path;
import java.util.ArrayList;
import java.util.LinkedHashMap;
import java.util.List;
import java.util.Map;
import java.util.TreeSet;
import java.util.regex.Matcher;
import java.util.regex.Pattern;
import java.util.stream.Stream;

/**
 * No word of the document is without a test: each stands in a piece that a test names by
 * CHECKS.sentence(words, ..) below CHECKS.under(headings ..), and what the tests name stands there.
 * Runs in the project's folder.
 */
public final class DocumentTest {
    private static final Path DOCUMENT = Path.of("../shared/DOC.md");
    private static final Path TESTS = Path.of("src/test/java");
    private static final String FACE = "The public face";
    private static final Checks CHECKS = new Checks("DocumentTest");

    /** What promises nothing that a call could break: the heading, and the words. */
    private static final String[][] FREE = {
        {"What it is", "An engine for queries."},
        {"Terms", "Ahead of the calls `table`, `row`, `drop`, `variety` the interface says: ---- tables."},
        {"Terms", "Ahead of the calls `token`, `clear`, `read`, `faultAt`, `many` the interface says:"
            + " ---- the query:"},
        {"Terms", "Ahead of the calls `condition`, `rewrite`, `swap`, `best`, `order`, `guess`, `cost`,"
            + " `isEmpty` the interface says: ---- the plan:"},
        {"Terms", "Ahead of the calls `open`, `next`, `value`, `done` the interface says: ---- pulling."},
        {"Terms", "Ahead of the calls `results`, `result`, `wouldDo`, `meetingsWithout`, `share`, `digest`"
            + " the interface says: ----"},
        {"Not promised", "How the state is held inside the object is free, as are the speed of each call,"
            + " the text of toString and the behaviour of equals and hashCode."},
        {"Not promised", "Use of one object from several threads at once is not promised to be safe."},
    };

    private static final String TEXT = "\"(?:[^\"\\\\]|\\\\.)*\"";
    private static final String JOINED = TEXT + "(?:\\s*\\+\\s*" + TEXT + ")*";
    private static final Pattern NAMED =
            Pattern.compile("\\b(under|sentence)\\(\\s*(" + JOINED + "(?:,\\s*" + JOINED + ")*)");
    private static final Pattern SIGNATURE = Pattern.compile("^`([^`]*)`:");

    private final Map<String, String> texts = new LinkedHashMap<>();
    private final Map<String, boolean[]> named = new LinkedHashMap<>();

    private static String oneLine(String text) {
        return text.replaceAll("\\s+", " ").trim();
    }

    /** The text below each heading, as one line. */
    private void readDocument() throws IOException {
        String heading = "";
        StringBuilder text = new StringBuilder();
        for (String line : Files.readAllLines(DOCUMENT)) {
            if (line.startsWith("#")) {
                keep(heading, text.toString());
                heading = line.replaceAll("^#+ *", "");
                text.setLength(0);
            } else if (!line.startsWith("```")) {
                text.append(line).append('\n');
            }
        }
        keep(heading, text.toString());
    }

    private void keep(String heading, String text) {
        if (!oneLine(text).isEmpty()) {
            texts.put(heading, oneLine(text));
            named.put(heading, new boolean[oneLine(text).length()]);
        }
    }

    private void name(String who, String heading, String words) {
        String text = texts.getOrDefault(heading, "");
        int at = text.indexOf(words);
        CHECKS.is(who + ": under \"" + heading + "\" stands \"" + words + "\"", at >= 0, true);
        if (at < 0) {
            return;
        }
        CHECKS.is(who + ": under \"" + heading + "\" stands but once \"" + words + "\"",
                text.indexOf(words, at + 1) < 0, true);
        for (int i = at; i < at + words.length(); i++) {
            named.get(heading)[i] = true;
        }
    }

    /** The texts that are written in a test, each as one, even if it is joined from several. */
    private static List<String> written(String arguments) {
        List<String> all = new ArrayList<>();
        for (String argument : arguments.split("\"\\s*,\\s*\"")) {
            String inside = argument.replaceAll("\"\\s*\\+\\s*\"", "").replaceAll("^\"|\"$", "");
            all.add(inside.replace("\\\"", "\"").replace("\\\\", "\\"));
        }
        return all;
    }

    private void readTests() throws IOException {
        TreeSet<Path> files = new TreeSet<>();
        try (Stream<Path> all = Files.list(TESTS)) {
            all.filter(f -> f.toString().endsWith("Test.java")).forEach(files::add);
        }
        for (Path file : files) {
            List<String> headings = List.of("");
            Matcher matcher = NAMED.matcher(Files.readString(file));
            while (matcher.find()) {
                List<String> written = written(matcher.group(2));
                if (matcher.group(1).equals("under")) {
                    headings = written;
                    continue;
                }
                for (String heading : headings) {
                    name(file.getFileName().toString(), heading, written.get(0));
                }
            }
        }
    }

    /** A promise begins with its call as the public face has it; FaceTest looks at that. */
    private void nameSignatures() {
        for (String heading : texts.keySet()) {
            Matcher signature = SIGNATURE.matcher(texts.get(heading));
            if (signature.find()) {
                CHECKS.is("the public face has " + signature.group(1),
                        texts.get(FACE).contains("public " + signature.group(1) + ";"), true);
                name("the face", heading, signature.group());
            }
        }
    }

    private void tellWhatIsLeft(String heading) {
        String text = texts.get(heading);
        boolean[] here = named.get(heading);
        StringBuilder left = new StringBuilder();
        for (int i = 0; i < here.length; i++) {
            left.append(here[i] ? '\n' : text.charAt(i));
        }
        for (String words : left.toString().split("\n+")) {
            boolean isEmpty = words.replaceAll("[^A-Za-z0-9]", "").isEmpty();
            CHECKS.is("under \"" + heading + "\" no test names \"" + words.trim() + "\"", isEmpty, true);
        }
    }

    public static void main(String[] args) throws IOException {
        DocumentTest test = new DocumentTest();
        test.readDocument();
        for (String[] free : FREE) {
            test.name("DocumentTest", free[0], free[1]);
        }
        test.nameSignatures();
        test.readTests();
        test.texts.keySet().forEach(test::tellWhatIsLeft);
        CHECKS.end();
    }
}
