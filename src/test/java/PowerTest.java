/** Promises 11 and 12, with Terms 2 and 4: power fails at every RECORD after every number of bytes. */
public final class PowerTest {
    private static final Check CHECK = new Check();

    public static void main(String[] args) {
        wrongNumbers();
        counting();
        forgotten();
        everyRecordOfAWithdrawal();
        everyRecordOfADeclined();
        everyRecordInTurningOn();
        bankAtRequest();
        bankAtReversal();
        turningOn();
        CHECK.end();
    }

    private static void wrongNumbers() {
        CHECK.part("promises 11 and 12");
        CashLink x = new CashLink();
        CHECK.illegalArgument("w -1", () -> x.power(-1, 0, 0));
        CHECK.illegalArgument("w 5", () -> x.power(5, 0, 0));
        CHECK.illegalArgument("k -1", () -> x.power(0, -1, 0));
        CHECK.illegalArgument("k 51", () -> x.power(0, 51, 0));
        CHECK.illegalArgument("k 51 with 17", () -> x.power(0, 51, 17));
        CHECK.illegalArgument("b -1", () -> x.power(0, 0, -1));
        CHECK.illegalArgument("b 18", () -> x.power(4, 0, 18));
        CHECK.illegalArgument("on -1", () -> x.on(-1));
        CHECK.illegalArgument("on 5", () -> x.on(5));
        Bench.withdrawn(x, 0, 1, 10);
        CHECK.same("nothing failed", 3, x.told(0, 3));
    }

    private static void counting() {
        CHECK.part("promise 11, RECORD k");
        CashLink x = new CashLink();
        x.power(0, 50, 16);
        x.power(1, 2, 0);
        for (int a = 0; a < 16; a++) {
            Bench.withdrawn(x, 0, a, 10);
        }
        CHECK.same("48 RECORDS", 48, x.told(0, 3));
        int k = Bench.answered(x, 0, 20, 10);
        CHECK.powerFails("RECORD 50", () -> x.deliver(k));
        CHECK.same("after it", 51, x.told(0, 3));
        CHECK.same("notes came out before", 10, x.taken(20));
        int k1 = Bench.answered(x, 1, 21, 10);
        CHECK.powerFails("RECORD 2 of another MACHINE", () -> x.deliver(k1));
        CHECK.same("without it", 2, x.told(1, 3));
    }

    private static void forgotten() {
        CHECK.part("promise 11, forgotten");
        CashLink x = new CashLink();
        x.power(0, 0, 3);
        x.power(0, 9, 17);
        Bench.withdrawn(x, 0, 1, 10);
        CHECK.same("17: it does not fail", 3, x.told(0, 3));
        x.power(0, 0, 3);
        x.power(0, 1, 3);
        int k = Bench.answered(x, 0, 1, 10);
        CHECK.powerFails("the last word counts", () -> x.deliver(k));
        x.on(0);
        Bench.withdrawn(x, 0, 1, 10);
        CHECK.same("power fails once", 1, x.told(0, 0));
        x.power(4, 0, 0);
        x.power(4, 0, 17);
        Bench.withdrawn(x, 0, 1, 10);
        CHECK.same("17 for the BANK", 1, x.count(1));
    }

    /** RECORDS 1, 2, 3, 4, 5 of a withdrawal of 100 of which 50 come out, then again until all is right. */
    private static void everyRecordOfAWithdrawal() {
        for (int k = 0; k < 6; k++) {
            for (int b = 0; b <= 17; b++) {
                CHECK.part("power(0, " + k + ", " + b + ") in a withdrawal that jams");
                CashLink x = new CashLink();
                x.jam(0, 1);
                x.power(0, k, b);
                boolean failed = Bench.fails(() -> {
                    Bench.withdrawn(x, 0, 7, 100);
                    x.deliver(Bench.passed(x, x.count(0) - 1));
                });
                CHECK.holds("power fails", failed == (k < 5 && b < 17));
                int whole = failed ? k + (b == 16 ? 1 : 0) : 5;
                CHECK.same("RECORDS", whole, x.told(0, 3));
                CHECK.same("state", failed ? 0 : 1, x.told(0, 0));
                CHECK.same("taken", whole >= 3 || k == 2 ? 50 : 0, x.taken(7));
                CHECK.same("on", whole, x.on(0));
                // After RECORD 1: 4. After RECORD 2: 3 and 4. After RECORD 3: 4.
                int[] due = {0, 2, 4, 4, 4, 5};
                CHECK.same("RECORDS after on", due[whole], x.told(0, 3));
                CHECK.same("VOIDS after on", whole == 0 || whole == 5 ? 0 : 1, x.told(0, 2));
                CHECK.same("TRACE", whole == 0 ? 0 : 1, x.told(0, 1));
                atLastAllIsRight(x, 0);
            }
        }
    }

    private static void everyRecordOfADeclined() {
        for (int k = 0; k < 3; k++) {
            for (int b = 0; b <= 16; b++) {
                CHECK.part("power(3, " + k + ", " + b + ") in a withdrawal that is declined");
                CashLink x = new CashLink();
                x.power(3, k, b);
                boolean failed = Bench.fails(() -> Bench.withdrawn(x, 3, 7, 600));
                CHECK.holds("power fails", failed == k < 2);
                int whole = failed ? k + (b == 16 ? 1 : 0) : 2;
                CHECK.same("on", whole, x.on(3));
                CHECK.same("VOIDS after on", whole == 1 ? 1 : 0, x.told(3, 2));
                atLastAllIsRight(x, 3);
            }
        }
    }

    /** Power fails at RECORD 2 (whole), and then once more in turning ON at RECORD 3 or 4. */
    private static void everyRecordInTurningOn() {
        for (int k = 0; k < 3; k++) {
            for (int b = 0; b <= 16; b++) {
                CHECK.part("power(1, " + k + ", " + b + ") in turning on");
                CashLink x = new CashLink();
                x.power(1, 1, 16);
                CHECK.holds("at RECORD 2", Bench.fails(() -> Bench.withdrawn(x, 1, 7, 100)));
                x.power(1, k, b);
                boolean failed = Bench.fails(() -> x.on(1));
                CHECK.holds("power fails", failed == k < 2);
                int whole = failed ? 2 + k + (b == 16 ? 1 : 0) : 4;
                CHECK.same("RECORDS", whole, x.told(1, 3));
                CHECK.same("state", failed ? 0 : 1, x.told(1, 0));
                CHECK.same("0420 sent", failed ? 0 : 1, x.count(0) - 2);
                x.power(1, 0, 17);
                CHECK.same("on", whole, x.on(1));
                CHECK.same("RECORDS after on", 4, x.told(1, 3));
                CHECK.same("nothing came out", 0, x.taken(7));
                CHECK.same("one VOID", 1, x.told(1, 2));
                atLastAllIsRight(x, 1);
                CHECK.same("balance", 500, x.balance(7));
            }
        }
    }

    private static void bankAtRequest() {
        for (int b = 0; b <= 16; b++) {
            CHECK.part("power(4, 0, " + b + ") at RECORD 6");
            CashLink x = new CashLink();
            Bench.asked(x, 0, 7, 100);
            x.power(4, 0, b);
            CHECK.powerFails("0200", () -> x.deliver(0));
            int whole = b == 16 ? 1 : 0;
            CHECK.same("OFF", 0, x.count(1));
            CHECK.same("RECORDS", whole, x.count(2));
            CHECK.same("no 0210", 1, x.count(0));
            CHECK.same("balance by its RECORDS", 500 - 100 * whole, x.balance(7));
            CHECK.same("on", whole, x.on(4));
            CHECK.same("ON", 1, x.count(1));
            CHECK.same("0200 again", 1, x.deliver(0));
            CHECK.same("RECORDS", 1, x.count(2));
            CHECK.same("balance", 400, x.balance(7));
            x.deliver(1);
            CHECK.same("taken", 100, x.taken(7));
            atLastAllIsRight(x, 0);
        }
    }

    private static void bankAtReversal() {
        for (int b = 0; b <= 16; b++) {
            CHECK.part("power(4, 1, " + b + ") at RECORD 7");
            CashLink x = new CashLink();
            x.power(4, 1, b);
            Bench.answered(x, 0, 7, 100);
            x.cancel(0);
            CHECK.powerFails("0420", () -> x.deliver(2));
            int whole = b == 16 ? 2 : 1;
            CHECK.same("no 0430", 3, x.count(0));
            CHECK.same("balance by its RECORDS", whole == 2 ? 500 : 400, x.balance(7));
            CHECK.same("on", whole, x.on(4));
            CHECK.same("0420 again", 1, x.deliver(2));
            CHECK.same("balance", 500, x.balance(7));
            CHECK.same("RECORDS", 2, x.count(2));
            atLastAllIsRight(x, 0);
        }
    }

    private static void turningOn() {
        CHECK.part("promise 12");
        CashLink x = new CashLink();
        for (int w = 0; w <= 4; w++) {
            CHECK.same("no RECORDS", 0, x.on(w));
        }
        x.card(0, 7);
        x.on(0);
        CHECK.same("EMPTY after a CARD", 1, x.told(0, 0));
        Bench.ready(x, 0, 7);
        x.on(0);
        CHECK.same("EMPTY after READY", 1, x.told(0, 0));
        Bench.answered(x, 0, 7, 100);
        CHECK.same("while it WAITS", 1, x.on(0));
        CHECK.same("EMPTY", 1, x.told(0, 0));
        CHECK.same("a VOID", 1, x.told(0, 2));
        CHECK.same("0420 is sent", 3, x.count(0));
        CHECK.same("0210 does nothing", 0, x.deliver(1));
        CHECK.same("nothing more to do", 2, x.on(0));
        CHECK.same("no RECORD is written", 2, x.told(0, 3));
        CHECK.same("no MESSAGE is sent", 3, x.count(0));
        CHECK.same("the BANK", 1, x.on(4));
        CHECK.same("balance stays", 400, x.balance(7));
        atLastAllIsRight(x, 0);
        Bench.withdrawn(x, 0, 8, 100);
        CHECK.same("after a whole withdrawal", 6, x.on(0));
        CHECK.same("no RECORD", 6, x.told(0, 3));
        CHECK.same("last TRACE by its RECORDS", 2, x.told(0, 1));
        CHECK.same("settle by its RECORDS", 100, x.settle(0));
    }

    private static void atLastAllIsRight(CashLink x, int machine) {
        Bench.reversed(x, machine);
        CHECK.same("no VOIDS at last", 0, x.told(machine, 2));
        CHECK.same("count(4)", 0, x.count(4));
        CHECK.same("count(5)", 0, x.count(5));
        CHECK.same("settled", x.told(machine, 10), x.settle(machine));
        x.deliver(x.count(0) - 1);
        CHECK.same("answer of 0510, first digit", '0', x.byteAt(x.count(0) - 1, 18));
        CHECK.same("answer of 0510, second digit", '0', x.byteAt(x.count(0) - 1, 19));
        CHECK.same("count(6)", 0, x.count(6));
    }
}
