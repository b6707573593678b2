import java.io.IOException;
import java.nio.file.Files;
import java.nio.file.Path;
import java.util.regex.Matcher;
import java.util.regex.Pattern;

/** What of LANGUAGE.md can be seen by looking for words in the class. Runs in the project's folder. */
public final class LanguageTest {
    private static final Path SOURCE = Path.of("src/main/java/OrchardQuery.java");
    private static final Checks CHECKS = new Checks("LanguageTest");

    /** A rule's number, and what must not stand in the program. */
    private static final String[][] BANNED = {
        {"1", "\\bpackage\\b"}, {"1", "\\bprotected\\b"}, {"2", "(\\)|[=(,]\\s*\\w+)\\s*->"},
        {"2", "::"}, {"3", "\\bMath\\.(sqrt|pow|floor|ceil|round|random)\\b"},
        {"4", "\\bimport (?!java\\.util\\.)"}, {"4", "Exact\\("}, {"4", "\\bSystem\\.(?!arraycopy)"},
        {"5", "\\bstatic\\s*\\{"}, {"5", "\\bstatic (?!final|int |long |boolean )\\w+ \\w+( =|;)"},
        {"6", "\\bfinally\\b"}, {"6", "\\bsynchronized\\b"}, {"6", "\\bassert\\b"},
        {"6", "\\bhashCode\\b"}, {"6", "\\bgetMessage\\b"}, {"6", "\\bextends \\w*Exception\\b"},
        {"6", "\\bcatch \\((final )?(Exception|Throwable|Error|NullPointer|ClassCast|Array|NegativeArray)"},
        {"9", "\\bwhile \\(true\\)"}, {"9", "for \\(;;"}, {"10", "\" \\+|\\+ \""},
        {"13", "\\b(Thread|Random|File|nanoTime|currentTimeMillis|getenv)\\b"},
    };

    private static String withoutComments(String text) {
        return text.replaceAll("(?s)/\\*.*?\\*/", "").replaceAll("//[^\n]*", "");
    }

    private static int count(String pattern, String text) {
        Matcher matcher = Pattern.compile(pattern).matcher(text);
        int found = 0;
        while (matcher.find()) {
            found++;
        }
        return found;
    }

    public static void main(String[] args) throws IOException {
        String text = withoutComments(Files.readString(SOURCE));
        for (String[] banned : BANNED) {
            CHECKS.is("rule " + banned[0] + ": " + banned[1], count(banned[1], text), 0);
        }
        int classes = count("\\b(class|enum|record|interface) \\w+", text);
        CHECKS.is("rule 11: some twelve classes, here " + classes, classes <= 14, true);
        int signs = 0;
        for (int i = 0; i < text.length(); i++) {
            if (text.charAt(i) > 127) {
                signs++;
            }
        }
        CHECKS.is("rule 4: signs above 127", signs, 0);
        CHECKS.end();
    }
}
