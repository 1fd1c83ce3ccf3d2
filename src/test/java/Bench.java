/** Ways that tests often go: a whole withdrawal, or the first part of one. */
final class Bench {
    /** What a note of each CASSETTE is worth. */
    static final int[] WORTH = {5, 10, 20, 50};

    /** The BANK's number in power and on. */
    static final int BANK = 4;

    /** MACHINE 0 of a filled object has so many VOIDS. */
    static final int VOIDS = 50;

    private Bench() {
    }

    static int pinOf(int account) {
        return 1000 + 37 * account;
    }

    static void ready(CashLink x, int machine, int account) {
        x.card(machine, account);
        x.pin(machine, pinOf(account));
    }

    /** The customer asks: the number of the MESSAGE 0200 that was sent. */
    static int asked(CashLink x, int machine, int account, int amount) {
        ready(x, machine, account);
        x.ask(machine, amount);
        return x.count(0) - 1;
    }

    /** The customer asks and the BANK answers: the number of the MESSAGE 0210. */
    static int answered(CashLink x, int machine, int account, int amount) {
        return passed(x, asked(x, machine, account, amount));
    }

    /** A whole withdrawal. */
    static void withdrawn(CashLink x, int machine, int account, int amount) {
        x.deliver(answered(x, machine, account, amount));
    }

    /** MESSAGE k comes: the number of the MESSAGE that was sent by that. */
    static int passed(CashLink x, int k) {
        x.deliver(k);
        return x.count(0) - 1;
    }

    /** The VOIDS of a MACHINE are said again and answered until there are none. */
    static void reversed(CashLink x, int machine) {
        int first = x.count(0);
        int voids = x.again(machine);
        for (int i = 0; i < voids; i++) {
            x.deliver(passed(x, first + i));
        }
    }

    /** Says whether power failed in the call. */
    static boolean fails(Check.Call call) {
        try {
            call.run();
            return false;
        } catch (ArithmeticException e) {
            return true;
        }
    }

    /** The number of the MESSAGE that was sent last. */
    static int last(CashLink x) {
        return x.count(0) - 1;
    }

    /** Note by note, until a CASSETTE of MACHINE 0 has so many left. */
    static void drainedTo(CashLink x, int cassette, int left) {
        for (int account = 100; x.told(0, 4 + cassette) > left; account++) {
            withdrawn(x, 0, account, WORTH[cassette]);
        }
    }

    /** All notes of CASSETTES 3, 2 and so on down to this one are taken from MACHINE 0. */
    static void drainedDownTo(CashLink x, int lowest) {
        int account = 100;
        for (int c = 3; c >= lowest; c--) {
            for (int left = x.told(0, 4 + c); left > 0; left = x.told(0, 4 + c)) {
                withdrawn(x, 0, account, WORTH[c] * Math.min(left, 500 / WORTH[c]));
                account++;
            }
        }
    }

    /** The MIX of an amount for MACHINE 0 as text, notes of CASSETTE 3 first. */
    static String mix(CashLink x, int amount) {
        return x.mix(0, amount, 3) + " " + x.mix(0, amount, 2) + " " + x.mix(0, amount, 1) + " " + x.mix(0, amount, 0);
    }

    /**
     * An object with so many MESSAGES: MACHINE 0 has VOIDS (MESSAGES 3 and 4 are 0200 and 0420 of the first),
     * MACHINE 1 is READY, MACHINE 2 WAITS (MESSAGES 0 and 1 are its 0200 and 0210), MACHINE 3 sent MESSAGE 2, 0500.
     */
    static CashLink filled(int messages) {
        CashLink x = new CashLink();
        answered(x, 2, 62, 100);
        x.settle(3);
        ready(x, 1, 61);
        for (int i = 0; i < VOIDS; i++) {
            asked(x, 0, i, 10);
            x.cancel(0);
        }
        while (x.count(0) + VOIDS <= messages) {
            x.again(0);
        }
        while (x.count(0) < messages) {
            x.settle(3);
        }
        return x;
    }

    /** A MESSAGE as text, with its bitmap in hexadecimal digits. */
    static String text(CashLink x, int k) {
        StringBuilder out = new StringBuilder();
        for (int i = 0; x.byteAt(k, i) >= 0; i++) {
            boolean inBitmap = i >= 4 && i < 12;
            out.append(inBitmap ? String.format("%02x", x.byteAt(k, i)) : String.valueOf((char) x.byteAt(k, i)));
        }
        return out.toString();
    }

    static int typeOf(CashLink x, int k) {
        return digits(x, k, 0, 4);
    }

    /** The amount of a MESSAGE 0420 or 0500. */
    static int amountOf(CashLink x, int k) {
        return digits(x, k, 12, 12);
    }

    /** The TRACE of a MESSAGE 0420 or 0500. */
    static int traceOf(CashLink x, int k) {
        return digits(x, k, 24, 6);
    }

    /** The answer of a MESSAGE 0210 or 0510. */
    static int answerOf(CashLink x, int k) {
        return digits(x, k, 18, 2);
    }

    private static int digits(CashLink x, int k, int from, int length) {
        int number = 0;
        for (int i = from; i < from + length; i++) {
            number = 10 * number + x.byteAt(k, i) - '0';
        }
        return number;
    }
}
