import java.io.IOException;
import java.nio.file.Files;
import java.nio.file.Path;
import java.util.regex.Matcher;
import java.util.regex.Pattern;

/** What of LANGUAGE.md can be seen by looking for words in the class. Runs in the project's folder. */
public final class LanguageTest {
    private static final Path SOURCE = Path.of("src/main/java/OrchardQuery.java");
    private static final Checks CHECKS = new Checks("LanguageTest");

    /** A rule's number, and what must not stand in the program. */
    private static final String[][] BANNED = {
        {"1", "\\bpackage\\b"}, {"1", "\\bprotected\\b"}, {"2", "->"}, {"2", "::"},
        {"3", "\\bMath\\.(sqrt|pow|floor|ceil|round)\\b"}, {"3", "\\bfloat\\b"},
        {"4", "\\bimport\\b"}, {"4", "\\bjava\\."}, {"4", "@"}, {"4", "Exact\\b"},
        {"4", "\\bSystem\\.(?!arraycopy)"}, {"4", "\\b(Integer|Long)\\.[A-Z]"},
        {"5", "\\bstatic\\s*\\{"}, {"5", "\\bstatic (?!final|int |long |boolean )\\w+ \\w+( =|;)"},
        {"6", "\\btry\\b"}, {"6", "\\bcatch\\b"}, {"6", "\\bfinally\\b"}, {"6", "\\bsynchronized\\b"},
        {"6", "\\bassert\\b"}, {"6", "\\binstanceof\\b"}, {"6", "\\bequals\\b"}, {"6", "hashCode"},
        {"6", "toString"}, {"9", "\\bwhile\\b"}, {"9", "for \\(;"}, {"10", "\" \\+|\\+ \""},
        {"13", "\\b(Thread|Random|File|nanoTime|currentTimeMillis|getenv)\\b"},
    };

    private static String withoutComments(String text) {
        return text.replaceAll("(?s)/\\*.*?\\*/", "").replaceAll("//[^\n]*", "");
    }

    private static int count(String pattern, String text) {
        Matcher matcher = Pattern.compile(pattern).matcher(text);
        int found = 0;
        while (matcher.find()) {
            found++;
        }
        return found;
    }

    public static void main(String[] args) throws IOException {
        String text = withoutComments(Files.readString(SOURCE));
        for (String[] banned : BANNED) {
            CHECKS.is("rule " + banned[0] + ": " + banned[1], count(banned[1], text), 0);
        }
        int classes = count("\\bclass \\w+", text);
        CHECKS.is("rule 11: no more than twelve classes: " + classes, classes <= 12, true);
        CHECKS.is("rule 1: classes inside are static",
                count("(?<!static )(?<!static final )(?<!public final )class \\w+", text), 0);
        int signs = 0;
        for (int i = 0; i < text.length(); i++) {
            if (text.charAt(i) > 126) {
                signs++;
            }
        }
        CHECKS.is("rule 4: signs above 126", signs, 0);
        CHECKS.end();
    }
}
