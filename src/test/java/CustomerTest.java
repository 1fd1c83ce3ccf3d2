/** Promises 1 to 5: a new object, card, pin, ask, cancel. */
public final class CustomerTest {
    private static final Check CHECK = new Check();

    public static void main(String[] args) {
        aNewObject();
        card();
        pin();
        ask();
        askWithoutMix();
        askAndPower();
        cancel();
        cancelAndPower();
        CHECK.end();
    }

    private static void aNewObject() {
        CHECK.part("promise 1");
        CashLink x = new CashLink();
        for (int m = 0; m < 4; m++) {
            int[] due = {1, 0, 0, 0, 30, 30, 30, 30, 0, 0, 0};
            for (int what = 0; what < due.length; what++) {
                CHECK.same("told(" + m + ", " + what + ")", due[what], x.told(m, what));
            }
        }
        int[] due = {0, 1, 0, 100000, 0, 0, 0};
        for (int what = 0; what < due.length; what++) {
            CHECK.same("count(" + what + ")", due[what], x.count(what));
        }
        for (int a = 0; a < 200; a++) {
            CHECK.same("balance", 500, x.balance(a));
            CHECK.same("taken", 0, x.taken(a));
        }
    }

    private static void card() {
        CHECK.part("promise 2");
        CashLink x = new CashLink();
        x.card(0, 0);
        x.card(3, 199);
        CHECK.same("a CARD", 2, x.told(0, 0));
        CHECK.same("a CARD", 2, x.told(3, 0));
        CHECK.same("no CARD elsewhere", 1, x.told(1, 0));
        CHECK.illegalArgument("MACHINE -1", () -> x.card(-1, 0));
        CHECK.illegalArgument("MACHINE 4", () -> x.card(4, 0));
        CHECK.illegalArgument("ACCOUNT -1", () -> x.card(1, -1));
        CHECK.illegalArgument("ACCOUNT 200", () -> x.card(1, 200));
        CHECK.illegalArgument("ACCOUNT 200, looked at first", () -> x.card(0, 200));
        CHECK.illegalState("with a CARD", () -> x.card(0, 1));
        x.pin(0, 1000);
        CHECK.illegalState("READY", () -> x.card(0, 1));
        x.ask(0, 5);
        CHECK.illegalState("WAITS", () -> x.card(0, 1));
        x.power(0, 0, 0);
        CHECK.powerFails("cancel", () -> x.cancel(0));
        CHECK.illegalState("OFF", () -> x.card(0, 1));
        CHECK.same("a call that throws changes nothing", 1, x.told(1, 0));
    }

    private static void pin() {
        CHECK.part("promise 3");
        CashLink x = new CashLink();
        CHECK.illegalArgument("MACHINE -1", () -> x.pin(-1, 1000));
        CHECK.illegalArgument("MACHINE 4", () -> x.pin(4, 1000));
        CHECK.illegalState("EMPTY", () -> x.pin(0, 1000));
        x.card(0, 199);
        CHECK.holds("wrong", !x.pin(0, 1000));
        CHECK.holds("wrong again", !x.pin(0, Integer.MIN_VALUE));
        CHECK.same("still a CARD", 2, x.told(0, 0));
        CHECK.holds("right", x.pin(0, 8363));
        CHECK.same("READY", 3, x.told(0, 0));
        CHECK.illegalState("READY", () -> x.pin(0, 8363));
        x.ask(0, 10);
        CHECK.illegalState("WAITS", () -> x.pin(0, 8363));
        x.card(1, 0);
        CHECK.holds("wrong 1", !x.pin(1, 1001));
        CHECK.holds("wrong 2", !x.pin(1, 1001));
        CHECK.holds("wrong 3", !x.pin(1, 1001));
        CHECK.same("the card is kept", 1, x.told(1, 0));
        CHECK.illegalState("no CARD any more", () -> x.pin(1, 1000));
        x.card(1, 0);
        CHECK.holds("a new CARD counts anew", !x.pin(1, 1001) && !x.pin(1, 1001));
        x.cancel(1);
        x.card(1, 0);
        CHECK.holds("also after two wrong ones", !x.pin(1, 1001) && !x.pin(1, 1001) && x.pin(1, 1000));
        x.ask(1, 5);
        x.power(1, 0, 3);
        CHECK.powerFails("cancel", () -> x.cancel(1));
        CHECK.illegalState("OFF", () -> x.pin(1, 1000));
    }

    private static void ask() {
        CHECK.part("promise 4");
        CashLink x = new CashLink();
        CHECK.illegalState("EMPTY", () -> x.ask(0, 10));
        CHECK.illegalArgument("4, also when it is EMPTY", () -> x.ask(0, 4));
        x.card(0, 3);
        CHECK.illegalState("a CARD", () -> x.ask(0, 10));
        x.pin(0, Bench.pinOf(3));
        CHECK.illegalArgument("MACHINE -1", () -> x.ask(-1, 10));
        CHECK.illegalArgument("MACHINE 4", () -> x.ask(4, 10));
        CHECK.illegalArgument("4", () -> x.ask(0, 4));
        CHECK.illegalArgument("1001", () -> x.ask(0, 1001));
        CHECK.illegalArgument("below 0", () -> x.ask(0, -5));
        CHECK.same("first TRACE", 1, x.ask(0, 1000));
        CHECK.same("WAITS", 4, x.told(0, 0));
        CHECK.same("one RECORD", 1, x.told(0, 3));
        CHECK.same("one MESSAGE", 1, x.count(0));
        CHECK.illegalState("WAITS", () -> x.ask(0, 10));
        x.cancel(0);
        Bench.ready(x, 0, 4);
        CHECK.same("second TRACE", 2, x.ask(0, 5));
        Bench.ready(x, 1, 4);
        CHECK.same("TRACE of another MACHINE", 1, x.ask(1, 5));
    }

    private static void askWithoutMix() {
        CHECK.part("promise 4, no MIX");
        CashLink x = new CashLink();
        Bench.ready(x, 0, 3);
        CHECK.unsupported("7", () -> x.ask(0, 7));
        CHECK.unsupported("999", () -> x.ask(0, 999));
        CHECK.same("stays READY", 3, x.told(0, 0));
        CHECK.same("no RECORD", 0, x.told(0, 3));
        CHECK.same("no MESSAGE", 0, x.count(0));
        CHECK.same("no TRACE", 0, x.told(0, 1));
        CHECK.same("then another amount", 1, x.ask(0, 15));
        CashLink y = new CashLink();
        for (int a = 0; a < 30; a++) {
            Bench.withdrawn(y, 2, a, 5);
        }
        Bench.ready(y, 2, 40);
        CHECK.unsupported("no 5 is left", () -> y.ask(2, 55));
        CHECK.same("10 can be had", 31, y.ask(2, 10));
    }

    private static void askAndPower() {
        CHECK.part("promise 4, power");
        for (int b = 0; b <= 16; b++) {
            CashLink x = new CashLink();
            Bench.ready(x, 0, 3);
            x.power(0, 0, b);
            CHECK.powerFails("ask", () -> x.ask(0, 20));
            CHECK.same("no MESSAGE", 0, x.count(0));
            CHECK.illegalState("OFF", () -> x.ask(0, 20));
            int whole = b == 16 ? 1 : 0;
            CHECK.same("RECORDS", whole, x.told(0, 3));
            CHECK.same("on", whole, x.on(0));
            CHECK.same("last TRACE", whole, x.told(0, 1));
            CHECK.same("VOIDS", whole, x.told(0, 2));
            Bench.ready(x, 0, 3);
            CHECK.same("a withdrawal without whole RECORD 1 is none", whole + 1, x.ask(0, 20));
        }
    }

    private static void cancel() {
        CHECK.part("promise 5");
        CashLink x = new CashLink();
        CHECK.illegalArgument("MACHINE -1", () -> x.cancel(-1));
        CHECK.illegalArgument("MACHINE 4", () -> x.cancel(4));
        CHECK.illegalState("EMPTY", () -> x.cancel(0));
        x.card(0, 1);
        x.cancel(0);
        CHECK.same("EMPTY after a CARD", 1, x.told(0, 0));
        Bench.ready(x, 0, 1);
        x.cancel(0);
        CHECK.same("EMPTY after READY", 1, x.told(0, 0));
        CHECK.same("no RECORD", 0, x.told(0, 3));
        Bench.asked(x, 0, 1, 60);
        x.cancel(0);
        CHECK.same("EMPTY after it WAITED", 1, x.told(0, 0));
        CHECK.same("a VOID", 1, x.told(0, 2));
        CHECK.same("RECORDS 1 and 4", 2, x.told(0, 3));
        CHECK.same("0200 and 0420", 2, x.count(0));
        CHECK.same("0210 is sent", 1, x.deliver(0));
        CHECK.same("0210 comes too late", 0, x.deliver(2));
        CHECK.same("nothing came out", 0, x.taken(1));
        CHECK.same("the BALANCE fell", 440, x.balance(1));
        CHECK.same("0430 is sent", 1, x.deliver(1));
        CHECK.same("the BALANCE is back", 500, x.balance(1));
        CHECK.same("0430 comes", 0, x.deliver(3));
        CHECK.same("no VOID any more", 0, x.told(0, 2));
    }

    private static void cancelAndPower() {
        CHECK.part("promise 5, power");
        for (int b = 0; b <= 16; b++) {
            CashLink x = new CashLink();
            x.power(2, 1, b);
            Bench.asked(x, 2, 1, 60);
            CHECK.powerFails("cancel", () -> x.cancel(2));
            CHECK.illegalState("OFF", () -> x.cancel(2));
            CHECK.same("no 0420", 1, x.count(0));
            CHECK.same("on", b == 16 ? 2 : 1, x.on(2));
            CHECK.same("0420 only of a VOID that is new", b == 16 ? 1 : 2, x.count(0));
            CHECK.same("one VOID", 1, x.told(2, 2));
        }
    }
}
