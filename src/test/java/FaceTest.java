import java.lang.reflect.Constructor;
import java.lang.reflect.Field;
import java.lang.reflect.Method;
import java.lang.reflect.Modifier;
import java.util.ArrayList;
import java.util.List;
import java.util.StringJoiner;
import java.util.TreeSet;

/** The public face: what the document names, and no more. */
public final class FaceTest {
    private static final Class<?> FACE = OrchardQuery.class;
    private static final Checks CHECKS = new Checks("FaceTest");
    private static final TreeSet<String> NAMED = new TreeSet<>();

    private static String types(Class<?>[] types, String divider) {
        StringJoiner text = new StringJoiner(divider);
        for (Class<?> type : types) {
            text.add(type.getSimpleName());
        }
        return text.toString();
    }

    private static String thrown(Class<?>[] exceptions) {
        return exceptions.length == 0 ? ";" : " throws " + types(exceptions, ", ") + ";";
    }

    /** The public constructors and methods, as the document writes them, but for parameters' names. */
    private static List<String> face() {
        List<String> lines = new ArrayList<>();
        for (Constructor<?> made : FACE.getConstructors()) {
            lines.add("public " + FACE.getSimpleName() + "(" + types(made.getParameterTypes(), ", ") + ")"
                    + thrown(made.getExceptionTypes()));
        }
        for (Method method : FACE.getDeclaredMethods()) {
            if (Modifier.isPublic(method.getModifiers())) {
                lines.add("public " + (Modifier.isStatic(method.getModifiers()) ? "static " : "")
                        + method.getReturnType().getSimpleName() + " " + method.getName() + "("
                        + types(method.getParameterTypes(), ", ") + ")" + thrown(method.getExceptionTypes()));
            }
        }
        return lines;
    }

    private static String withoutNames(String line) {
        return line.replaceAll("\\b(int|long|double|boolean) \\w+(?=[,)])", "$1");
    }

    /** A line of the document's face. */
    private static void sentence(String line) {
        CHECKS.sentence(line, () -> {
            NAMED.add(withoutNames(line));
            CHECKS.is("the class has it", face().contains(withoutNames(line)), true);
        });
    }

    private static void finalClass() {
        CHECKS.is("public and final", FACE.getModifiers(), Modifier.PUBLIC | Modifier.FINAL);
        CHECKS.is("without a package", FACE.getName(), "OrchardQuery");
        CHECKS.is("it is nothing but an Object", FACE.getSuperclass() == Object.class
                && FACE.getInterfaces().length == 0, true);
    }

    private static void noMore() {
        for (String line : face()) {
            CHECKS.is("the document has " + line, NAMED.contains(line), true);
        }
        CHECKS.is("constructors", FACE.getDeclaredConstructors().length, 1);
        for (Field field : FACE.getDeclaredFields()) {
            int how = field.getModifiers();
            CHECKS.is(field + " is private", Modifier.isPrivate(how), true);
            CHECKS.is(field + " is final, if it is static",
                    Modifier.isFinal(how) || !Modifier.isStatic(how), true);
        }
        for (Class<?> inside : FACE.getDeclaredClasses()) {
            int how = inside.getModifiers();
            CHECKS.is(inside + " is not public", Modifier.isPublic(how) || Modifier.isProtected(how), false);
        }
        for (Method method : FACE.getDeclaredMethods()) {
            if (!Modifier.isPublic(method.getModifiers())) {
                CHECKS.is(method + " is private", Modifier.isPrivate(method.getModifiers()), true);
                CHECKS.is("a public method is named as " + method, NAMED.stream()
                        .anyMatch(line -> line.contains(" " + method.getName() + "(")), false);
            }
        }
    }

    /** But for what is or is not so, and the one share that is not cut. */
    private static void allNumbersAreWhole() {
        for (Method method : FACE.getDeclaredMethods()) {
            String type = method.getReturnType().getSimpleName();
            if (Modifier.isPublic(method.getModifiers())) {
                CHECKS.is(method + " is whole", type.equals("int") || type.equals("long"),
                        !type.equals("boolean") && !method.getName().equals("share"));
                CHECKS.is(method + " takes whole numbers",
                        types(method.getParameterTypes(), "").replace("int", ""), "");
            }
        }
    }

    private static void wholeFace() {
        CHECKS.under("The public face");
        CHECKS.sentence("public final class OrchardQuery {", FaceTest::finalClass);
        sentence("public OrchardQuery();");
        sentence("public int table(int columns) throws IllegalArgumentException, IllegalStateException;");
        sentence("public int row(int table, int a, int b, int c) throws IndexOutOfBoundsException,"
                + " IllegalArgumentException, IllegalStateException;");
        sentence("public int drop(int table, int place) throws IndexOutOfBoundsException;");
        sentence("public int variety(int table, int column) throws IndexOutOfBoundsException;");
        sentence("public int token(int token) throws IllegalArgumentException, IllegalStateException;");
        sentence("public int clear();");
        sentence("public int read();");
        sentence("public int faultAt();");
        sentence("public int many(int what) throws IllegalArgumentException;");
        sentence("public int condition(int condition, int what) throws IllegalStateException,"
                + " IndexOutOfBoundsException, IllegalArgumentException;");
        sentence("public int rewrite(int rule) throws IllegalStateException, IllegalArgumentException;");
        sentence("public int swap(int one, int other) throws IllegalStateException,"
                + " IndexOutOfBoundsException;");
        sentence("public long best() throws IllegalStateException;");
        sentence("public int order(int place) throws IllegalStateException, IndexOutOfBoundsException;");
        sentence("public long guess(int level) throws IllegalStateException, IndexOutOfBoundsException;");
        sentence("public long cost() throws IllegalStateException;");
        sentence("public boolean isEmpty() throws IllegalStateException;");
        sentence("public int open() throws IllegalStateException;");
        sentence("public boolean next() throws IllegalStateException;");
        sentence("public int value(int item) throws IllegalStateException, IndexOutOfBoundsException;");
        sentence("public int done(int what) throws IllegalStateException, IllegalArgumentException;");
        sentence("public int results() throws IllegalStateException;");
        sentence("public int result(int place, int item) throws IllegalStateException,"
                + " IndexOutOfBoundsException;");
        sentence("public int wouldDo(int what) throws IllegalStateException, IllegalArgumentException;");
        sentence("public int meetingsWithout(int condition) throws IllegalStateException,"
                + " IndexOutOfBoundsException;");
        sentence("public double share() throws IllegalStateException;");
        sentence("public long digest();");
        CHECKS.sentence("public final class OrchardQuery {", FaceTest::noMore);
    }

    public static void main(String[] args) {
        wholeFace();
        CHECKS.under("Terms");
        CHECKS.sentence("All numbers are whole, if nothing else is said.", FaceTest::allNumbersAreWhole);
        CHECKS.end();
    }
}
