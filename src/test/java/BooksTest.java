/** Promises 14, 15 and 18, and the limits of Terms 2 and 3: balance, taken, count. */
public final class BooksTest {
    private static final Check CHECK = new Check();

    public static void main(String[] args) {
        balanceAndTaken();
        count();
        countOfTheDisturbed();
        mostMessages();
        roomInTheJournal();
        CHECK.end();
    }

    private static void balanceAndTaken() {
        CHECK.part("promises 14 and 15");
        CashLink x = new CashLink();
        CHECK.illegalArgument("balance(-1)", () -> x.balance(-1));
        CHECK.illegalArgument("balance(200)", () -> x.balance(200));
        CHECK.illegalArgument("taken(-1)", () -> x.taken(-1));
        CHECK.illegalArgument("taken(200)", () -> x.taken(200));
        Bench.withdrawn(x, 0, 199, 100);
        Bench.withdrawn(x, 1, 199, 45);
        int k = Bench.answered(x, 2, 199, 5);
        Bench.withdrawn(x, 3, 0, 20);
        CHECK.same("balance falls with the answer", 350, x.balance(199));
        CHECK.same("taken at any MACHINE", 145, x.taken(199));
        x.deliver(k);
        CHECK.same("taken with 0210", 150, x.taken(199));
        CHECK.same("the other's balance", 480, x.balance(0));
        CHECK.same("the other took", 20, x.taken(0));
        CHECK.same("a third's balance", 500, x.balance(100));
        x.power(4, 0, 16);
        Bench.ready(x, 0, 199);
        x.ask(0, 30);
        CHECK.powerFails("0200", () -> x.deliver(x.count(0) - 1));
        CHECK.same("also when the BANK is OFF", 320, x.balance(199));
    }

    private static void count() {
        CHECK.part("promise 18");
        CashLink x = new CashLink();
        CHECK.illegalArgument("-1", () -> x.count(-1));
        CHECK.illegalArgument("7", () -> x.count(7));
        Bench.withdrawn(x, 0, 1, 100);
        Bench.answered(x, 1, 2, 30);
        expect(x, 4, 1, 2, 99870, 0, 0, 0);
        x.cancel(1);
        expect(x, 5, 1, 2, 99870, 0, 0, 0);
        Bench.reversed(x, 1);
        expect(x, 7, 1, 3, 99900, 0, 0, 0);
        x.settle(0);
        x.deliver(7);
        expect(x, 9, 1, 3, 99900, 0, 0, 0);
        x.settle(0);
        x.power(4, 0, 0);
        Bench.asked(x, 2, 3, 10);
        CHECK.powerFails("0200", () -> x.deliver(10));
        expect(x, 11, 0, 3, 99900, 0, 0, 0);
    }

    /** What 5 counts nothing while a MACHINE is OFF or WAITS or has VOIDS, though an ACCOUNT is not even. */
    private static void countOfTheDisturbed() {
        CHECK.part("promise 18, what 5");
        CashLink x = new CashLink();
        Bench.answered(x, 1, 2, 30);
        CHECK.same("WAITS", 0, x.count(5));
        x.cancel(1);
        CHECK.same("has VOIDS", 0, x.count(5));
        x.power(1, 0, 2);
        x.deliver(2);
        CHECK.powerFails("0430", () -> x.deliver(3));
        CHECK.same("OFF", 0, x.count(5));
        CHECK.same("sum", 100000, x.count(3));
    }

    private static void mostMessages() {
        CHECK.part("Term 3, 3000 MESSAGES");
        CashLink x = new CashLink();
        for (int i = 0; i < 50; i++) {
            Bench.asked(x, 0, i, 10);
            x.cancel(0);
        }
        Bench.ready(x, 1, 60);
        Bench.ready(x, 2, 61);
        int k = Bench.asked(x, 3, 62, 20);
        for (int i = 0; i < 57; i++) {
            x.again(0);
        }
        CHECK.same("before the limit", 2951, x.count(0));
        CHECK.same("the last that fits", 50, x.again(0));
        CHECK.same("at the limit", 3000, x.count(0));
        CHECK.same("again, as if they were sent", 50, x.again(0));
        CHECK.same("ask, as if it were sent", 1, x.ask(1, 30));
        CHECK.same("WAITS", 4, x.told(1, 0));
        CHECK.same("deliver tells that none was", 0, x.deliver(k));
        CHECK.same("the BANK wrote it", 480, x.balance(62));
        x.cancel(1);
        CHECK.same("a VOID", 1, x.told(1, 2));
        CHECK.same("settle, as if it were sent", 0, x.settle(2));
        CHECK.same("on", 1, x.on(3));
        CHECK.same("a VOID", 1, x.told(3, 2));
        CHECK.same("still", 3000, x.count(0));
        CHECK.same("the last MESSAGE", '0', x.byteAt(2999, 0));
        CHECK.outOfBounds("no MESSAGE 3000", () -> x.deliver(3000));
        CHECK.outOfBounds("no bytes of MESSAGE 3000", () -> x.byteAt(3000, 0));
        CHECK.same("0420 is not answered", 0, x.deliver(1));
        CHECK.same("but written", 2, x.count(2));
    }

    /** More than 512 calls are needed for that: it is not promised, but it is how Term 2 reads. */
    private static void roomInTheJournal() {
        CHECK.part("Term 2, room");
        CashLink x = new CashLink();
        Bench.withdrawn(x, 0, 0, 600);
        Bench.withdrawn(x, 0, 0, 600);
        for (int i = 0; i < 397; i++) {
            Bench.asked(x, 0, i % 200, 10);
            x.cancel(0);
        }
        Bench.ready(x, 0, 1);
        CHECK.same("798 RECORDS, 397 VOIDS: just room for five", 400, x.ask(0, 10));
        x.cancel(0);
        Bench.ready(x, 0, 1);
        CHECK.unsupported("800 RECORDS, 398 VOIDS", () -> x.ask(0, 10));
        CHECK.same("stays READY", 3, x.told(0, 0));
        CHECK.same("no RECORD", 800, x.told(0, 3));
        x.deliver(Bench.passed(x, 5));
        CHECK.same("one VOID less", 397, x.told(0, 2));
        CHECK.unsupported("801 RECORDS, 397 VOIDS: the answer took the room", () -> x.ask(0, 10));
    }

    private static void expect(CashLink x, int... due) {
        for (int what = 0; what < due.length; what++) {
            CHECK.same("count(" + what + ")", due[what], x.count(what));
        }
    }
}
