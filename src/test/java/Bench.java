/** Ways that tests often go: a whole withdrawal, or the first part of one. */
final class Bench {
    private Bench() {
    }

    static int pinOf(int account) {
        return 1000 + 37 * account;
    }

    static void ready(CashLink x, int machine, int account) {
        x.card(machine, account);
        x.pin(machine, pinOf(account));
    }

    /** The customer asks: the number of the MESSAGE 0200 that was sent. */
    static int asked(CashLink x, int machine, int account, int amount) {
        ready(x, machine, account);
        x.ask(machine, amount);
        return x.count(0) - 1;
    }

    /** The customer asks and the BANK answers: the number of the MESSAGE 0210. */
    static int answered(CashLink x, int machine, int account, int amount) {
        return passed(x, asked(x, machine, account, amount));
    }

    /** A whole withdrawal. */
    static void withdrawn(CashLink x, int machine, int account, int amount) {
        x.deliver(answered(x, machine, account, amount));
    }

    /** MESSAGE k comes: the number of the MESSAGE that was sent by that. */
    static int passed(CashLink x, int k) {
        x.deliver(k);
        return x.count(0) - 1;
    }

    /** The VOIDS of a MACHINE are said again and answered until there are none. */
    static void reversed(CashLink x, int machine) {
        int first = x.count(0);
        int voids = x.again(machine);
        for (int i = 0; i < voids; i++) {
            x.deliver(passed(x, first + i));
        }
    }

    /** A MESSAGE as text, with its bitmap in hexadecimal digits. */
    static String text(CashLink x, int k) {
        StringBuilder out = new StringBuilder();
        for (int i = 0; x.byteAt(k, i) >= 0; i++) {
            boolean inBitmap = i >= 4 && i < 12;
            out.append(inBitmap ? String.format("%02x", x.byteAt(k, i)) : String.valueOf((char) x.byteAt(k, i)));
        }
        return out.toString();
    }
}
