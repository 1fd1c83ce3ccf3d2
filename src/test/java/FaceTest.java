import java.lang.reflect.Constructor;
import java.lang.reflect.Field;
import java.lang.reflect.Method;
import java.lang.reflect.Modifier;
import java.util.Arrays;
import java.util.Set;
import java.util.TreeSet;

/** The public face is the document's, and nothing else of the class can be seen (LANGUAGE.md, rule 1). */
public final class FaceTest {
    private static final String[] FACE = {
        "void card(int, int)", "boolean pin(int, int)", "int ask(int, int)", "void cancel(int)",
        "int again(int)", "int settle(int)", "int deliver(int)", "void jam(int, int)",
        "int load(int, int, int)", "void power(int, int, int)", "int on(int)", "int told(int, int)",
        "int balance(int)", "int taken(int)", "int byteAt(int, int)", "int mix(int, int, int)",
        "int count(int)"};

    public static void main(String[] args) {
        Check check = new Check();
        check.part("face");
        check.holds("public and final", Modifier.isPublic(CashLink.class.getModifiers())
                && Modifier.isFinal(CashLink.class.getModifiers()));
        Constructor<?>[] made = CashLink.class.getDeclaredConstructors();
        check.same("constructors", 1, made.length);
        check.holds("public constructor without arguments",
                made[0].getParameterCount() == 0 && Modifier.isPublic(made[0].getModifiers()));
        check.holds("methods: " + seenMethods(), seenMethods().equals(new TreeSet<>(Arrays.asList(FACE))));
        for (Field field : CashLink.class.getDeclaredFields()) {
            check.holds("private field " + field.getName(), Modifier.isPrivate(field.getModifiers()));
        }
        for (Class<?> inside : CashLink.class.getDeclaredClasses()) {
            check.holds("static class inside " + inside.getName(), Modifier.isStatic(inside.getModifiers())
                    && !Modifier.isPublic(inside.getModifiers()) && !Modifier.isProtected(inside.getModifiers()));
        }
        check.end();
    }

    private static Set<String> seenMethods() {
        Set<String> seen = new TreeSet<>();
        for (Method method : CashLink.class.getDeclaredMethods()) {
            if (!Modifier.isPrivate(method.getModifiers())) {
                String types = Arrays.toString(method.getParameterTypes());
                seen.add(method.getReturnType() + " " + method.getName()
                        + "(" + types.substring(1, types.length() - 1) + ")");
            }
        }
        return seen;
    }
}
