import java.util.Arrays;

/**
 * Every call that is refused, in every state of its MACHINE: it throws what its promise says, and changes nothing
 * that can be asked, nor what the calls behind it answer (Term 5).
 */
public final class RefusedTest {
    private static final Check CHECK = new Check();
    private static final int OFF = 0;
    private static final int EMPTY = 1;
    private static final int CARD = 2;
    private static final int READY = 3;
    private static final int WAITS = 4;
    private static final int[] NO_MACHINE = {Integer.MIN_VALUE, -1, 4, Integer.MAX_VALUE};
    private static final int[] NO_ACCOUNT = {Integer.MIN_VALUE, -1, 200, Integer.MAX_VALUE};
    private static final int[] NO_CASSETTE = {Integer.MIN_VALUE, -1, 4, Integer.MAX_VALUE};
    private static final int[] NO_MESSAGE = {Integer.MIN_VALUE, -1, 6, Integer.MAX_VALUE};

    /** A call of the face. */
    private interface Call {
        Object of(CashLink x);
    }

    public static void main(String[] args) {
        card();
        pin();
        ask();
        askWithoutMix();
        cancel();
        again();
        settle();
        deliver();
        jam();
        load();
        loadOfTooMany();
        power();
        on();
        told();
        balance();
        taken();
        byteAt();
        mix();
        count();
        CHECK.end();
    }

    /**
     * MACHINE 0 is in this state, with two wrong PINS if it has a CARD, a VOID, a full CASSETTE 2, a jam that was
     * said and power that will fail; so will the BANK's. MACHINE 1 WAITS, and its 0210 was sent. MESSAGES: 5, or 6
     * if MACHINE 0 WAITS.
     */
    private static CashLink inState(int state) {
        CashLink x = new CashLink();
        Bench.asked(x, 0, 3, 35);
        x.cancel(0);
        Bench.answered(x, 1, 4, 100);
        x.settle(2);
        for (int n : new int[] {100, 100, 100, 100, 70}) {
            x.load(0, 2, n);
        }
        if (state == OFF) {
            x.power(0, 0, 9);
            Bench.fails(() -> Bench.asked(x, 0, 7, 10));
        }
        if (state >= CARD) {
            x.card(0, 7);
            x.pin(0, 1000);
            x.pin(0, 1000);
        }
        if (state >= READY) {
            x.pin(0, Bench.pinOf(7));
        }
        if (state >= WAITS) {
            x.ask(0, 85);
        }
        x.jam(0, 2);
        x.power(0, 3, 16);
        x.power(Bench.BANK, 1, 15);
        return x;
    }

    /** What a run of calls answers that meets all that inState left behind. */
    private static String story(CashLink x) {
        Call[] calls = {y -> y.pin(0, 1), y -> y.pin(0, Bench.pinOf(7)), y -> y.ask(0, 100), y -> y.deliver(0),
            y -> y.deliver(5), y -> y.on(4), y -> y.deliver(5), y -> y.deliver(Bench.last(y)), y -> y.again(0),
            y -> y.on(0), card(0, 8), y -> y.pin(0, Bench.pinOf(8)), y -> y.ask(0, 85), y -> y.deliver(Bench.last(y)),
            y -> y.on(4), y -> y.deliver(Bench.last(y)), y -> y.deliver(Bench.last(y)), y -> y.on(0),
            y -> y.again(0), y -> y.deliver(3), y -> y.settle(2), y -> y.load(0, 2, 1), y -> y.mix(0, 85, 3)};
        StringBuilder out = new StringBuilder();
        for (Call call : calls) {
            out.append(answer(x, call)).append(' ');
        }
        return out + Snapshot.of(x);
    }

    private static Object answer(CashLink x, Call call) {
        try {
            return call.of(x);
        } catch (RuntimeException e) {
            return e.getClass().getSimpleName();
        }
    }

    private static void refused(String what, Class<? extends RuntimeException> due, int state, Call call) {
        CashLink x = inState(state);
        String before = Snapshot.of(x);
        CHECK.thrown(what + " in state " + state, due, () -> call.of(x));
        CHECK.sameText(what + " in state " + state + ": all that can be asked", before, Snapshot.of(x));
        CHECK.sameText(what + " in state " + state + ": what follows", story(inState(state)), story(x));
    }

    /** In every state. */
    private static void always(String what, Class<? extends RuntimeException> due, Call call) {
        for (int state = OFF; state <= WAITS; state++) {
            refused(what, due, state, call);
        }
    }

    private static void illegalArgument(String what, Call call) {
        always(what, IllegalArgumentException.class, call);
    }

    private static void outOfBounds(String what, Call call) {
        always(what, IndexOutOfBoundsException.class, call);
    }

    /** Refused in these states and in no other. */
    private static void illegalState(String what, Call call, int... states) {
        for (int state = OFF; state <= WAITS; state++) {
            int now = state;
            if (Arrays.stream(states).anyMatch(s -> s == now)) {
                refused(what, IllegalStateException.class, state, call);
            } else {
                Object got = answer(inState(state), call);
                CHECK.holds(what + " in state " + state + " answers " + got, !(got instanceof String));
            }
        }
    }

    private static void neverRefused(String what, Call call) {
        illegalState(what, call);
    }

    private static Call card(int m, int a) {
        return x -> {
            x.card(m, a);
            return true;
        };
    }

    private static Call cancel(int m) {
        return x -> {
            x.cancel(m);
            return true;
        };
    }

    private static Call jam(int m, int j) {
        return x -> {
            x.jam(m, j);
            return true;
        };
    }

    private static Call power(int w, int k, int b) {
        return x -> {
            x.power(w, k, b);
            return true;
        };
    }

    private static void card() {
        CHECK.sentence("Promise 2", "IllegalArgumentException if there is no MACHINE m or ACCOUNT a (looked at first)");
        for (int m : NO_MACHINE) {
            illegalArgument("card(" + m + ", 7)", card(m, 7));
        }
        for (int a : NO_ACCOUNT) {
            illegalArgument("card(0, " + a + ")", card(0, a));
        }
        CHECK.sentence("Promise 2", "IllegalStateException if it is OFF, or not EMPTY");
        illegalState("card(0, 8)", card(0, 8), OFF, CARD, READY, WAITS);
    }

    private static void pin() {
        CHECK.sentence("Promise 3", "IllegalArgumentException if there is no MACHINE m");
        for (int m : NO_MACHINE) {
            illegalArgument("pin(" + m + ", 1259)", x -> x.pin(m, 1259));
        }
        CHECK.sentence("Promise 3", "IllegalStateException if it is OFF, or has no CARD, or is READY or WAITS");
        illegalState("pin(0, 1259)", x -> x.pin(0, 1259), OFF, EMPTY, READY, WAITS);
        illegalState("pin(0, 0)", x -> x.pin(0, 0), OFF, EMPTY, READY, WAITS);
    }

    private static void ask() {
        CHECK.sentence("Promise 4", "IllegalArgumentException if there is no MACHINE m, or v is not 5 to 1000");
        for (int m : NO_MACHINE) {
            illegalArgument("ask(" + m + ", 10)", x -> x.ask(m, 10));
        }
        for (int v : new int[] {Integer.MIN_VALUE, -5, 0, 4, 1001, 1005, Integer.MAX_VALUE}) {
            illegalArgument("ask(0, " + v + ")", x -> x.ask(0, v));
        }
        CHECK.sentence("Promise 4", "IllegalStateException if it is OFF or not READY");
        illegalState("ask(0, 10)", x -> x.ask(0, 10), OFF, EMPTY, CARD, WAITS);
    }

    private static void askWithoutMix() {
        CHECK.sentence("Promise 4", "UnsupportedOperationException if there is no MIX of v (it stays READY)");
        refused("ask(0, 7)", UnsupportedOperationException.class, READY, x -> x.ask(0, 7));
        refused("ask(0, 999)", UnsupportedOperationException.class, READY, x -> x.ask(0, 999));
        CHECK.sentence("Promise 4, before the MIX", "IllegalStateException if it is OFF or not READY");
        for (int state : new int[] {OFF, EMPTY, CARD, WAITS}) {
            refused("ask(0, 7)", IllegalStateException.class, state, x -> x.ask(0, 7));
        }
    }

    private static void cancel() {
        CHECK.sentence("Promise 5", "IllegalArgumentException if there is no MACHINE m");
        for (int m : NO_MACHINE) {
            illegalArgument("cancel(" + m + ")", cancel(m));
        }
        CHECK.sentence("Promise 5", "IllegalStateException if it is OFF or EMPTY");
        illegalState("cancel(0)", cancel(0), OFF, EMPTY);
    }

    private static void again() {
        CHECK.sentence("Promise 6", "IllegalArgumentException if there is no MACHINE m");
        for (int m : NO_MACHINE) {
            illegalArgument("again(" + m + ")", x -> x.again(m));
        }
        CHECK.sentence("Promise 6", "IllegalStateException if it is OFF");
        illegalState("again(0)", x -> x.again(0), OFF);
    }

    private static void settle() {
        CHECK.sentence("Promise 7", "IllegalArgumentException if there is no MACHINE m");
        for (int m : NO_MACHINE) {
            illegalArgument("settle(" + m + ")", x -> x.settle(m));
        }
        CHECK.sentence("Promise 7", "IllegalStateException if it is OFF, WAITS, or has VOIDS");
        illegalState("settle(0), which has VOIDS", x -> x.settle(0), OFF, EMPTY, CARD, READY, WAITS);
        illegalState("settle(1), which WAITS", x -> x.settle(1), OFF, EMPTY, CARD, READY, WAITS);
    }

    private static void deliver() {
        CHECK.sentence("Promise 8", "IndexOutOfBoundsException if there is no MESSAGE k");
        for (int k : NO_MESSAGE) {
            outOfBounds("deliver(" + k + ")", x -> x.deliver(k));
        }
        refused("deliver(5)", IndexOutOfBoundsException.class, READY, x -> x.deliver(5));
    }

    private static void jam() {
        CHECK.sentence("Promise 9", "IllegalArgumentException if there is no MACHINE m, or j is not 0 to 41");
        for (int m : NO_MACHINE) {
            illegalArgument("jam(" + m + ", 1)", jam(m, 1));
        }
        for (int j : new int[] {Integer.MIN_VALUE, -1, 42, Integer.MAX_VALUE}) {
            illegalArgument("jam(0, " + j + ")", jam(0, j));
        }
        neverRefused("jam(0, 41)", jam(0, 41));
    }

    private static void load() {
        CHECK.sentence("Promise 10", "IllegalArgumentException for other numbers");
        for (int m : NO_MACHINE) {
            illegalArgument("load(" + m + ", 1, 1)", x -> x.load(m, 1, 1));
        }
        for (int c : NO_CASSETTE) {
            illegalArgument("load(0, " + c + ", 1)", x -> x.load(0, c, 1));
        }
        for (int n : new int[] {Integer.MIN_VALUE, -1, 0, 101, Integer.MAX_VALUE}) {
            illegalArgument("load(0, 1, " + n + ")", x -> x.load(0, 1, n));
            illegalArgument("load of a full one, (0, 2, " + n + ")", x -> x.load(0, 2, n));
        }
    }

    private static void loadOfTooMany() {
        CHECK.sentence("Promise 10", "IllegalStateException if there would be more than 500");
        illegalState("load(0, 2, 1)", x -> x.load(0, 2, 1), OFF, EMPTY, CARD, READY, WAITS);
        illegalState("load(0, 2, 100)", x -> x.load(0, 2, 100), OFF, EMPTY, CARD, READY, WAITS);
        neverRefused("load(0, 1, 100)", x -> x.load(0, 1, 100));
    }

    private static void power() {
        CHECK.sentence("Promise 11", "IllegalArgumentException if w is not 0 to 4, k not 0 to 50, or b not 0 to 17");
        for (int w : new int[] {Integer.MIN_VALUE, -1, 5, Integer.MAX_VALUE}) {
            illegalArgument("power(" + w + ", 0, 0)", power(w, 0, 0));
        }
        for (int w : new int[] {0, Bench.BANK}) {
            for (int k : new int[] {Integer.MIN_VALUE, -1, 51, Integer.MAX_VALUE}) {
                illegalArgument("power(" + w + ", " + k + ", 0)", power(w, k, 0));
                illegalArgument("power(" + w + ", " + k + ", 17)", power(w, k, 17));
            }
            for (int b : new int[] {Integer.MIN_VALUE, -1, 18, Integer.MAX_VALUE}) {
                illegalArgument("power(" + w + ", 0, " + b + ")", power(w, 0, b));
            }
        }
        neverRefused("power(0, 50, 16)", power(0, 50, 16));
        neverRefused("power(4, 0, 17)", power(4, 0, 17));
    }

    private static void on() {
        CHECK.sentence("Promise 12", "IllegalArgumentException if w is not 0 to 4");
        for (int w : new int[] {Integer.MIN_VALUE, -1, 5, Integer.MAX_VALUE}) {
            illegalArgument("on(" + w + ")", x -> x.on(w));
        }
        neverRefused("on(0)", x -> x.on(0));
        neverRefused("on(4)", x -> x.on(4));
    }

    private static void told() {
        CHECK.sentence("Promise 13", "IllegalArgumentException for others");
        for (int m : NO_MACHINE) {
            illegalArgument("told(" + m + ", 0)", x -> x.told(m, 0));
            illegalArgument("told(" + m + ", 10)", x -> x.told(m, 10));
        }
        for (int what : new int[] {Integer.MIN_VALUE, -1, 11, Integer.MAX_VALUE}) {
            illegalArgument("told(0, " + what + ")", x -> x.told(0, what));
        }
        for (int what = 0; what <= 10; what++) {
            int each = what;
            neverRefused("told(0, " + what + ")", x -> x.told(0, each));
        }
    }

    private static void balance() {
        CHECK.sentence("Promise 14", "IllegalArgumentException if there is no ACCOUNT a");
        for (int a : NO_ACCOUNT) {
            illegalArgument("balance(" + a + ")", x -> x.balance(a));
        }
        neverRefused("balance(0)", x -> x.balance(0));
        neverRefused("balance(199)", x -> x.balance(199));
    }

    private static void taken() {
        CHECK.sentence("Promise 15", "IllegalArgumentException if there is no ACCOUNT a");
        for (int a : NO_ACCOUNT) {
            illegalArgument("taken(" + a + ")", x -> x.taken(a));
        }
        neverRefused("taken(0)", x -> x.taken(0));
        neverRefused("taken(199)", x -> x.taken(199));
    }

    private static void byteAt() {
        CHECK.sentence("Promise 16", "IndexOutOfBoundsException if there is no MESSAGE k, or i is below 0");
        for (int k : NO_MESSAGE) {
            outOfBounds("byteAt(" + k + ", 0)", x -> x.byteAt(k, 0));
        }
        refused("byteAt(5, 0)", IndexOutOfBoundsException.class, READY, x -> x.byteAt(5, 0));
        for (int i : new int[] {Integer.MIN_VALUE, -1}) {
            outOfBounds("byteAt(0, " + i + ")", x -> x.byteAt(0, i));
        }
    }

    private static void mix() {
        CHECK.sentence("Promise 17", "if there is no MACHINE m or CASSETTE c, or v is not 0 to 1000");
        for (int m : NO_MACHINE) {
            illegalArgument("mix(" + m + ", 10, 1)", x -> x.mix(m, 10, 1));
        }
        for (int c : NO_CASSETTE) {
            illegalArgument("mix(0, 10, " + c + ")", x -> x.mix(0, 10, c));
            illegalArgument("mix(0, 7, " + c + "), of which there is none", x -> x.mix(0, 7, c));
        }
        for (int v : new int[] {Integer.MIN_VALUE, -5, -1, 1001, Integer.MAX_VALUE}) {
            illegalArgument("mix(0, " + v + ", 0)", x -> x.mix(0, v, 0));
        }
        neverRefused("mix(0, 0, 0)", x -> x.mix(0, 0, 0));
        neverRefused("mix(0, 1000, 3)", x -> x.mix(0, 1000, 3));
    }

    private static void count() {
        CHECK.sentence("Promise 18", "IllegalArgumentException for others");
        for (int what : new int[] {Integer.MIN_VALUE, -1, 7, Integer.MAX_VALUE}) {
            illegalArgument("count(" + what + ")", x -> x.count(what));
        }
        for (int what = 0; what <= 6; what++) {
            int each = what;
            neverRefused("count(" + what + ")", x -> x.count(each));
        }
    }
}
