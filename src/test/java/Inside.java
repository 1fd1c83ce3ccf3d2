import java.lang.reflect.Constructor;
import java.lang.reflect.Field;
import java.util.List;

/** Hands that reach into an object, for what no run of calls brings about. */
final class Inside {
    private Inside() {
    }

    /** The RECORDS of MACHINE w, of the BANK if w is 4. */
    static List<Object> records(CashLink x, int w) {
        Object owner = w == Bench.BANK ? get(x, "bank") : machine(x, w);
        @SuppressWarnings("unchecked")
        List<Object> entries = (List<Object>) get(get(owner, "journal"), "entries");
        return entries;
    }

    static Object record(int kind, int machine, int trace, int account, int value, int answer) {
        try {
            Constructor<?> make = Class.forName("CashLink$Entry").getDeclaredConstructor(
                    int.class, int.class, int.class, int.class, int.class, int.class);
            make.setAccessible(true);
            return make.newInstance(kind, machine, trace, account, value, answer);
        } catch (ReflectiveOperationException e) {
            throw new IllegalStateException(e);
        }
    }

    /** Fills a JOURNAL with RECORDS 7 of TRACE 0, which no withdrawal has, that give nothing back. */
    static void fill(CashLink x, int w, int size) {
        List<Object> records = records(x, w);
        while (records.size() < size) {
            records.add(record(7, 0, 0, 0, 0, 0));
        }
    }

    static int[] notes(CashLink x, int m) {
        return (int[]) get(get(machine(x, m), "dispenser"), "notes");
    }

    /** The DISPENSER of MACHINE m did a TRACE last, and this came out. */
    static void did(CashLink x, int m, int trace, int value) {
        Object dispenser = get(machine(x, m), "dispenser");
        set(dispenser, "lastTrace", trace);
        set(dispenser, "lastValue", value);
    }

    private static Object machine(CashLink x, int m) {
        return ((Object[]) get(x, "machines"))[m];
    }

    private static Object get(Object owner, String name) {
        try {
            return field(owner, name).get(owner);
        } catch (ReflectiveOperationException e) {
            throw new IllegalStateException(e);
        }
    }

    private static void set(Object owner, String name, int value) {
        try {
            field(owner, name).setInt(owner, value);
        } catch (ReflectiveOperationException e) {
            throw new IllegalStateException(e);
        }
    }

    private static Field field(Object owner, String name) throws ReflectiveOperationException {
        Field field = owner.getClass().getDeclaredField(name);
        field.setAccessible(true);
        return field;
    }
}
