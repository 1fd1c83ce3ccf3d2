import java.lang.reflect.Constructor;
import java.lang.reflect.Field;
import java.lang.reflect.Method;
import java.lang.reflect.Modifier;
import java.util.Arrays;
import java.util.Set;
import java.util.StringJoiner;
import java.util.TreeSet;

/** The public face is the document's, and nothing else of the class can be seen (LANGUAGE.md, rule 1). */
public final class FaceTest {
    private static final String ARGUMENT = " IllegalArgumentException";
    private static final String STATE = " IllegalStateException";
    private static final String NONE_SUCH = " IndexOutOfBoundsException";
    private static final String REFUSED = " UnsupportedOperationException";
    private static final String POWER = " ArithmeticException";
    private static final String[] FACE = {
        "void card(int, int)" + ARGUMENT + STATE, "boolean pin(int, int)" + ARGUMENT + STATE,
        "int ask(int, int)" + ARGUMENT + STATE + REFUSED + POWER, "void cancel(int)" + ARGUMENT + STATE + POWER,
        "int again(int)" + ARGUMENT + STATE, "int settle(int)" + ARGUMENT + STATE,
        "int deliver(int)" + NONE_SUCH + POWER, "void jam(int, int)" + ARGUMENT,
        "int load(int, int, int)" + ARGUMENT + STATE, "void power(int, int, int)" + ARGUMENT,
        "int on(int)" + ARGUMENT + POWER, "int told(int, int)" + ARGUMENT, "int balance(int)" + ARGUMENT,
        "int taken(int)" + ARGUMENT, "int byteAt(int, int)" + NONE_SUCH, "int mix(int, int, int)" + ARGUMENT,
        "int count(int)" + ARGUMENT};

    public static void main(String[] args) {
        Check check = new Check();
        check.part("face");
        check.holds("public and final", Modifier.isPublic(CashLink.class.getModifiers())
                && Modifier.isFinal(CashLink.class.getModifiers()));
        Constructor<?>[] made = CashLink.class.getDeclaredConstructors();
        check.same("constructors", 1, made.length);
        check.holds("public constructor without arguments",
                made[0].getParameterCount() == 0 && Modifier.isPublic(made[0].getModifiers()));
        check.holds("methods: " + seenMethods(), seenMethods().equals(new TreeSet<>(Arrays.asList(FACE))));
        for (Field field : CashLink.class.getDeclaredFields()) {
            check.holds("private field " + field.getName(), Modifier.isPrivate(field.getModifiers()));
        }
        for (Class<?> inside : CashLink.class.getDeclaredClasses()) {
            check.holds("static class inside " + inside.getName(), Modifier.isStatic(inside.getModifiers())
                    && !Modifier.isPublic(inside.getModifiers()) && !Modifier.isProtected(inside.getModifiers()));
        }
        noNameTwice(check, CashLink.class);
        for (Class<?> inside : CashLink.class.getDeclaredClasses()) {
            noNameTwice(check, inside);
        }
        check.end();
    }

    private static Set<String> seenMethods() {
        Set<String> seen = new TreeSet<>();
        for (Method method : CashLink.class.getDeclaredMethods()) {
            if (!Modifier.isPrivate(method.getModifiers())) {
                seen.add(faceOf(method));
            }
        }
        return seen;
    }

    /** A method as FACE has it: its answer, name and parameters, and what it throws. */
    private static String faceOf(Method method) {
        StringJoiner types = new StringJoiner(", ", "(", ")");
        for (Class<?> type : method.getParameterTypes()) {
            types.add(type.getName());
        }
        StringBuilder out = new StringBuilder(method.getReturnType() + " " + method.getName() + types);
        for (Class<?> thrown : method.getExceptionTypes()) {
            out.append(' ').append(thrown.getSimpleName());
        }
        return out.toString();
    }

    /** "No private method bears the name of a public one." */
    private static void noNameTwice(Check check, Class<?> in) {
        for (Method method : in.getDeclaredMethods()) {
            if (Modifier.isPrivate(method.getModifiers())) {
                check.holds("a name of its own for " + method.getName() + " in " + in.getName(),
                        !publicNames().contains(method.getName()));
            }
        }
    }

    private static Set<String> publicNames() {
        Set<String> names = new TreeSet<>();
        for (Method method : CashLink.class.getMethods()) {
            names.add(method.getName());
        }
        return names;
    }
}
