/** Term 2, room in JOURNALS. 512 calls can't fill one: its RECORDS are put into it by hand. */
public final class RoomTest {
    private static final Check CHECK = new Check();

    public static void main(String[] args) {
        roomOfAMachine();
        fiveRecords();
        roomOfTheBank();
        roomForAReversal();
        CHECK.end();
    }

    /** 512 calls can't fill it: the RECORDS are put into it by hand. */
    private static void roomOfAMachine() {
        CHECK.sentence("Term 2", "if it has no room for five more and one for each of its VOIDS, ask is refused");
        for (int voids = 0; voids <= 2; voids++) {
            CashLink x = readyWithVoids(voids);
            Inside.fill(x, 1, 1195 - voids);
            CHECK.same("just room, VOIDS: " + voids, voids + 1, x.ask(1, 10));
            CashLink y = readyWithVoids(voids);
            Inside.fill(y, 1, 1196 - voids);
            CHECK.unsupported("no room, VOIDS: " + voids, () -> y.ask(1, 10));
            CHECK.same("no RECORD", 1196 - voids, y.told(1, 3));
            CHECK.same("no MESSAGE", 2 * voids, y.count(0));
            CHECK.same("it stays READY", 3, y.told(1, 0));
            Bench.ready(y, 0, 8);
            CHECK.same("another MACHINE has room", 1, y.ask(0, 10));
        }
    }

    private static CashLink readyWithVoids(int voids) {
        CashLink x = new CashLink();
        for (int i = 0; i < voids; i++) {
            Bench.asked(x, 1, 7, 10);
            x.cancel(1);
        }
        Bench.ready(x, 1, 7);
        return x;
    }

    private static void fiveRecords() {
        CHECK.sentence("Term 2", "a MACHINE's for 1200");
        CashLink x = new CashLink();
        Inside.fill(x, 1, 1195);
        x.jam(1, 1);
        Bench.withdrawn(x, 1, 7, 100);
        Bench.reversed(x, 1);
        CHECK.same("all five are in it", 1200, x.told(1, 3));
        CHECK.same("no VOID is left", 0, x.told(1, 2));
        CHECK.same("taken", 50, x.taken(7));
    }

    /** All MESSAGES together can't fill it. */
    private static void roomOfTheBank() {
        CHECK.sentence("Term 2", "if the BANK's has none for one more, it does not answer what would need one");
        CashLink x = new CashLink();
        x.settle(3);
        Bench.answered(x, 0, 7, 100);
        Bench.asked(x, 1, 8, 100);
        Bench.asked(x, 2, 9, 100);
        x.cancel(2);
        Inside.fill(x, Bench.BANK, 3999);
        CHECK.same("room for one more", 1, x.deliver(3));
        CHECK.same("full", 4000, x.count(2));
        CHECK.same("balance", 400, x.balance(8));
        CHECK.same("0200 would need one", 0, x.deliver(4));
        CHECK.same("0420 would need one", 0, x.deliver(5));
        CHECK.same("still full", 4000, x.count(2));
        CHECK.same("balance stays", 500, x.balance(9));
        CHECK.same("0200 that has its RECORD", 1, x.deliver(1));
        CHECK.same("0500 needs none", 1, x.deliver(0));
        CHECK.same("the BANK is ON", 1, x.count(1));
    }

    private static void roomForAReversal() {
        CHECK.sentence("Term 2", "The BANK's JOURNAL has room for 4000 RECORDS");
        CashLink x = new CashLink();
        Bench.answered(x, 0, 7, 100);
        x.cancel(0);
        Inside.fill(x, Bench.BANK, 3999);
        CHECK.same("0430", 1, x.deliver(2));
        CHECK.same("full", 4000, x.count(2));
        CHECK.same("given back", 500, x.balance(7));
        CHECK.same("0420 that has its RECORD", 1, x.deliver(2));
        CHECK.same("no more RECORDS", 4000, x.count(2));
    }
}
