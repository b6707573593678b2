import java.lang.reflect.Constructor;
import java.lang.reflect.Field;
import java.lang.reflect.Method;
import java.lang.reflect.Modifier;
import java.util.Arrays;
import java.util.TreeSet;

/** The public face: what the document names, and no more. */
public final class FaceTest {
    private static final String[] FACE = {
        "boolean isEmpty()", "boolean next()", "double share()", "int clear()",
        "int condition(int,int)", "int done(int)", "int drop(int,int)", "int faultAt()",
        "int many(int)", "int meetingsWithout(int)", "int open()", "int order(int)", "int read()",
        "int result(int,int)", "int results()", "int rewrite(int)", "int row(int,int,int,int)",
        "int swap(int,int)", "int table(int)", "int token(int)", "int value(int)",
        "int variety(int,int)", "int wouldDo(int)", "long best()", "long cost()", "long digest()",
        "long guess(int)",
    };

    public static void main(String[] args) {
        Checks checks = new Checks("FaceTest");
        TreeSet<String> open = new TreeSet<>();
        TreeSet<String> hidden = new TreeSet<>();
        for (Method method : OrchardQuery.class.getDeclaredMethods()) {
            String types = Arrays.toString(method.getParameterTypes()).replaceAll("[\\[\\] ]", "");
            if (Modifier.isPublic(method.getModifiers())) {
                open.add(method.getReturnType() + " " + method.getName() + "(" + types + ")");
            } else {
                hidden.add(method.getName());
                checks.is(method + " is private", Modifier.isPrivate(method.getModifiers()), true);
            }
        }
        checks.is("the methods " + open + " are those of the document",
                open.equals(new TreeSet<>(Arrays.asList(FACE))), true);
        for (String method : FACE) {
            String name = method.substring(method.indexOf(' ') + 1, method.indexOf('('));
            checks.is("a hidden method is named " + name, hidden.contains(name), false);
        }
        for (Field field : OrchardQuery.class.getDeclaredFields()) {
            int how = field.getModifiers();
            checks.is(field + " is private", Modifier.isPrivate(how), true);
            checks.is(field + " is final, if it is static",
                    Modifier.isFinal(how) || !Modifier.isStatic(how), true);
        }
        Constructor<?>[] constructors = OrchardQuery.class.getDeclaredConstructors();
        checks.is("constructors", constructors.length, 1);
        checks.is("its parameters", constructors[0].getParameterCount(), 0);
        checks.is("it is public", Modifier.isPublic(constructors[0].getModifiers()), true);
        checks.is("the class is final", Modifier.isFinal(OrchardQuery.class.getModifiers()), true);
        checks.end();
    }
}
