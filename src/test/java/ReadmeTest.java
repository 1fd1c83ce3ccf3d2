import java.io.IOException;
import java.lang.reflect.InvocationTargetException;
import java.lang.reflect.Method;
import java.nio.file.Files;
import java.nio.file.Path;
import java.util.List;
import java.util.regex.Matcher;
import java.util.regex.Pattern;
import java.util.stream.Stream;

/** The runs of calls in README.md answer what stands behind each of their calls, and every call is in its table. */
public final class ReadmeTest {
    private static final Check CHECK = new Check();
    private static final String MADE = "CashLink x = new CashLink();";
    private static final Pattern CALL = Pattern.compile("x\\.(\\w+)\\(([\\d, ]+)\\); +// ([^\\s:]+).*");

    public static void main(String[] args) throws IOException, IllegalAccessException {
        List<String> lines = Files.readAllLines(Path.of("README.md"));
        int calls = answersOf(lines);
        CHECK.part("README.md");
        CHECK.holds("runs of calls, " + calls + " calls", calls > 30);
        for (Method method : CashLink.class.getMethods()) {
            if (method.getDeclaringClass() == CashLink.class) {
                CHECK.holds("a row of the table for " + method.getName(), hasRow(lines, method.getName()));
            }
        }
        CHECK.end();
    }

    /** Says the calls of every run: how many there were. */
    private static int answersOf(List<String> lines) throws IllegalAccessException {
        CashLink x = null;
        boolean inRun = false;
        int calls = 0;
        for (String line : lines) {
            if (line.startsWith("```")) {
                inRun = line.equals("```java");
            } else if (inRun && line.equals(MADE)) {
                x = new CashLink();
            } else if (inRun) {
                CHECK.part("README.md, " + line);
                calls++;
                oneCall(x, CALL.matcher(line));
            }
        }
        return calls;
    }

    private static void oneCall(CashLink x, Matcher call) throws IllegalAccessException {
        if (!call.matches()) {
            CHECK.holds("a call with its answer", false);
            return;
        }
        String due = call.group(3);
        String got = answer(x, call.group(1), call.group(2).split(", "));
        if (got.equals("null")) {
            CHECK.holds("no answer of a call that has none", !due.matches("-?\\d+|true|false|\\w+Exception"));
        } else {
            CHECK.sameText("the answer", due, got);
        }
    }

    private static String answer(CashLink x, String name, String[] numbers) throws IllegalAccessException {
        Object[] arguments = Stream.of(numbers).map(Integer::valueOf).toArray();
        try {
            return String.valueOf(methodOf(name).invoke(x, arguments));
        } catch (InvocationTargetException e) {
            return e.getCause().getClass().getSimpleName();
        }
    }

    private static Method methodOf(String name) {
        for (Method method : CashLink.class.getMethods()) {
            if (method.getName().equals(name)) {
                return method;
            }
        }
        throw new IllegalArgumentException("README.md calls " + name);
    }

    private static boolean hasRow(List<String> lines, String name) {
        return lines.stream().anyMatch(line -> line.startsWith("| `" + name + "("));
    }
}
