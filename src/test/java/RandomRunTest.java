import java.lang.reflect.InvocationTargetException;
import java.lang.reflect.Method;
import java.lang.reflect.Modifier;
import java.util.Arrays;
import java.util.HashMap;
import java.util.Map;
import java.util.Random;

/** Runs of calls drawn by a seed, on a CashLink and on the Oracle: each call answers or throws the same on both. */
public final class RandomRunTest {
    private static final int RUNS = 2500;
    private static final int CALLS = 512;
    private static final Check CHECK = new Check();

    private static final String[] NAMES = {"card", "pin", "ask", "cancel", "again", "settle", "deliver", "jam",
        "load", "power", "on", "told", "balance", "taken", "byteAt", "mix", "count"};
    /** How often each is drawn. */
    private static final int[] WEIGHTS = {14, 14, 14, 3, 3, 3, 34, 3, 1, 4, 4, 4, 2, 2, 1, 1, 3};
    private static final long NOTHING = 1000000;
    private static final Map<String, Method> FACE = methodsOf(CashLink.class);
    private static final Map<String, Method> ORACLE = methodsOf(Oracle.class);

    private final Random random;
    private final int faults;
    private final CashLink x = new CashLink();
    private final Oracle y = new Oracle();
    /** The cards that went in last: the driver has to know their PINS. */
    private final int[] cards = new int[4];

    private RandomRunTest(long seed) {
        random = new Random(seed);
        faults = (int) (seed % 4);
    }

    public static void main(String[] args) {
        int quiet = 0;
        int failures = 0;
        for (int seed = 0; seed < RUNS; seed++) {
            CHECK.part("run " + seed);
            RandomRunTest run = new RandomRunTest(seed);
            failures += run.go();
            run.compareAll();
            quiet += run.comeToRest() ? 1 : 0;
        }
        CHECK.part("all runs");
        CHECK.holds("power failed often: " + failures, failures > RUNS);
        CHECK.same("runs that came to rest", RUNS, quiet);
        CHECK.end();
    }

    private int go() {
        int failures = 0;
        for (int i = 0; i < CALLS; i++) {
            int which = draw();
            int[] in = arguments(NAMES[which]);
            failures += both(NAMES[which], in) == code(new ArithmeticException()) ? 1 : 0;
        }
        return failures;
    }

    private long both(String name, int... in) {
        long due = answer(y, ORACLE.get(name), in);
        long got = answer(x, FACE.get(name), in);
        CHECK.same(name + Arrays.toString(in), due, got);
        if (name.equals("card") && got == NOTHING) {
            cards[in[0]] = in[1];
        }
        return got;
    }

    private int draw() {
        int sum = 0;
        for (int weight : WEIGHTS) {
            sum += weight;
        }
        int left = random.nextInt(sum);
        int which = 0;
        while (left >= WEIGHTS[which]) {
            left -= WEIGHTS[which];
            which++;
        }
        return which;
    }

    private int machine() {
        return random.nextInt(60) == 0 ? random.nextInt(9) - 2 : random.nextInt(faults < 2 ? 2 : 4);
    }

    private int account() {
        return random.nextInt(60) == 0 ? random.nextInt(300) - 50 : random.nextInt(6);
    }

    private int message() {
        int sent = y.count(0);
        if (sent == 0 || random.nextInt(60) == 0) {
            return random.nextInt(4000) - 10;
        }
        int back = random.nextInt(4) == 0 ? sent : Math.min(sent, 5);
        return sent - 1 - random.nextInt(back);
    }

    private int[] arguments(String name) {
        int m = machine();
        switch (name) {
            case "card":
                return new int[] {m, account()};
            case "pin":
                return new int[] {m, rightPin(m) + (random.nextInt(8) == 0 ? 1 : 0)};
            case "ask":
                return new int[] {m, amount()};
            case "deliver":
                return new int[] {message()};
            case "jam":
                return new int[] {m, random.nextInt(3) == 0 ? random.nextInt(46) - 2 : random.nextInt(4)};
            case "load":
                return new int[] {m, random.nextInt(6) - 1, random.nextInt(110) - 2};
            case "power":
                return power();
            case "on":
                return new int[] {random.nextInt(2) == 0 ? firstOff() : random.nextInt(7) - 1};
            case "told":
                return new int[] {m, random.nextInt(13) - 1};
            case "balance":
            case "taken":
                return new int[] {account()};
            case "byteAt":
                return new int[] {message(), random.nextInt(50) - 2};
            case "mix":
                return new int[] {m, random.nextInt(2) == 0 ? 5 * random.nextInt(202) : random.nextInt(1010) - 5,
                    random.nextInt(6) - 1};
            case "count":
                return new int[] {random.nextInt(9) - 1};
            default:
                return new int[] {m};
        }
    }

    private int rightPin(int m) {
        return m < 0 || m > 3 ? 1000 : Bench.pinOf(cards[m]);
    }

    private int amount() {
        if (random.nextInt(12) == 0) {
            return random.nextInt(1020) - 5;
        }
        return 5 * (1 + random.nextInt(random.nextInt(3) == 0 ? 110 : 20));
    }

    private int[] power() {
        if (random.nextInt(4) < 4 - faults) {
            return new int[] {random.nextInt(5), random.nextInt(3), 17};
        }
        int bytes = random.nextInt(3) == 0 ? 16 : random.nextInt(20) - 1;
        return new int[] {random.nextInt(7) - 1, random.nextInt(8) == 0 ? random.nextInt(60) - 2 : random.nextInt(5),
            bytes};
    }

    private int firstOff() {
        for (int m = 0; m < 4; m++) {
            if (y.told(m, 0) == 0) {
                return m;
            }
        }
        return 4;
    }

    /** What a call answers: the Oracle's methods have the names and arguments of the face. */
    private static long answer(Object target, Method method, int[] in) {
        Object[] boxed = new Object[in.length];
        for (int i = 0; i < in.length; i++) {
            boxed[i] = in[i];
        }
        try {
            Object got = method.invoke(target, boxed);
            if (got instanceof Boolean) {
                return (Boolean) got ? 1 : 0;
            }
            return got == null ? NOTHING : (Integer) got;
        } catch (InvocationTargetException e) {
            return code(e.getCause());
        } catch (IllegalAccessException e) {
            throw new IllegalStateException(e);
        }
    }

    private static Map<String, Method> methodsOf(Class<?> owner) {
        Map<String, Method> found = new HashMap<>();
        for (Method method : owner.getDeclaredMethods()) {
            if (!Modifier.isPrivate(method.getModifiers())) {
                found.put(method.getName(), method);
            }
        }
        return found;
    }

    /** A number that no call answers, for each exception's class. */
    private static long code(Throwable e) {
        return Long.MIN_VALUE + e.getClass().getName().hashCode();
    }

    private void compareAll() {
        for (int m = 0; m < 4; m++) {
            for (int what = 0; what <= 10; what++) {
                both("told", m, what);
            }
        }
        for (int what = 0; what <= 6; what++) {
            both("count", what);
        }
        for (int a = 0; a < 6; a++) {
            both("balance", a);
            both("taken", a);
        }
        for (int k = 0; k < y.count(0); k++) {
            for (int i = 0; i < 44; i++) {
                both("byteAt", k, i);
            }
        }
    }

    /** All goes ON, all is answered: then nothing is lost and nothing is there twice. */
    private boolean comeToRest() {
        for (int w = 4; w >= 0; w--) {
            both("power", w, 0, 17);
            both("on", w);
        }
        for (int m = 0; m < 4; m++) {
            Bench.reversed(x, m);
            x.settle(m);
            x.deliver(x.count(0) - 1);
            CHECK.same("settled", x.told(m, 10), x.settle(m));
        }
        for (int a = 0; a < 6; a++) {
            CHECK.same("balance and taken", 500, x.balance(a) + x.taken(a));
        }
        return x.count(4) == 0 && x.count(5) == 0 && x.count(6) == 0 && x.count(0) < 3000;
    }
}
