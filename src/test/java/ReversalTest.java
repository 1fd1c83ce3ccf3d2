/** Promises 6, 7 and 8, with Term 5: again, settle, deliver, and what the BANK does. */
public final class ReversalTest {
    private static final Check CHECK = new Check();

    public static void main(String[] args) {
        again();
        settle();
        settleOfAParted();
        deliver();
        answersAreSaidAgain();
        reversalBeforeRequest();
        tooLittle();
        declinedAndReversed();
        delayedTotals();
        off();
        CHECK.end();
    }

    private static void again() {
        CHECK.part("promise 6");
        CashLink x = new CashLink();
        CHECK.illegalArgument("MACHINE -1", () -> x.again(-1));
        CHECK.illegalArgument("MACHINE 4", () -> x.again(4));
        CHECK.same("no VOIDS", 0, x.again(1));
        for (int i = 0; i < 3; i++) {
            Bench.asked(x, 1, i, 10 * (i + 1));
            x.cancel(1);
        }
        CHECK.same("three VOIDS", 3, x.again(1));
        CHECK.same("three MESSAGES more", 9, x.count(0));
        for (int i = 0; i < 3; i++) {
            CHECK.holds("in order", Bench.text(x, 6 + i).equals(Bench.text(x, 1 + 2 * i)));
        }
        x.deliver(Bench.passed(x, 7));
        CHECK.same("two VOIDS are left", 2, x.again(1));
        CHECK.holds("the first", Bench.text(x, 10).equals(Bench.text(x, 1)));
        CHECK.holds("the last", Bench.text(x, 11).equals(Bench.text(x, 5)));
        CHECK.same("RECORDS before on", 7, x.on(1));
        CHECK.same("VOIDS by RECORDS", 2, x.again(1));
        CHECK.holds("the first after on", Bench.text(x, 12).equals(Bench.text(x, 1)));
        x.power(1, 0, 0);
        CHECK.powerFails("0430", () -> x.deliver(Bench.passed(x, 1)));
        CHECK.illegalState("OFF", () -> x.again(1));
    }

    private static void settle() {
        CHECK.part("promise 7");
        CashLink x = new CashLink();
        CHECK.illegalArgument("MACHINE -1", () -> x.settle(-1));
        CHECK.illegalArgument("MACHINE 4", () -> x.settle(4));
        CHECK.same("nothing came out", 0, x.settle(0));
        CHECK.sameText("TRACE 0", "0500" + "1020000000800000" + "000000000000" + "00000000000000", Bench.text(x, 0));
        CHECK.same("0510", 1, x.deliver(0));
        Bench.withdrawn(x, 0, 1, 100);
        Bench.withdrawn(x, 0, 2, 35);
        Bench.withdrawn(x, 1, 2, 40);
        x.card(0, 3);
        CHECK.same("with a CARD", 135, x.settle(0));
        x.pin(0, Bench.pinOf(3));
        CHECK.same("READY", 135, x.settle(0));
        x.ask(0, 10);
        CHECK.illegalState("WAITS", () -> x.settle(0));
        x.cancel(0);
        CHECK.illegalState("has VOIDS", () -> x.settle(0));
        Bench.reversed(x, 0);
        CHECK.same("after all", 135, x.settle(0));
        int k = x.count(0) - 1;
        CHECK.sameText("TRACE 3", "0500" + "1020000000800000" + "000000000135" + "00000300000000", Bench.text(x, k));
        CHECK.same("0510", 1, x.deliver(k));
        CHECK.sameText("answer 0", "0510" + "0020000002800000" + "000003" + "00" + "00000000", Bench.text(x, k + 1));
        CHECK.same("0510 does nothing", 0, x.deliver(k + 1));
        CHECK.same("another MACHINE", 40, x.settle(1));
        x.power(0, 0, 8);
        Bench.ready(x, 0, 5);
        CHECK.powerFails("ask", () -> x.ask(0, 5));
        CHECK.illegalState("OFF", () -> x.settle(0));
    }

    private static void settleOfAParted() {
        CHECK.part("promise 7, a part");
        CashLink x = new CashLink();
        x.jam(3, 2);
        Bench.withdrawn(x, 3, 9, 200);
        Bench.reversed(x, 3);
        CHECK.same("what came out", 100, x.settle(3));
        Bench.passed(x, x.count(0) - 1);
        CHECK.same("no wrong total", 0, x.count(6));
        CHECK.same("answer 0", 48, x.byteAt(x.count(0) - 1, 19));
    }

    private static void deliver() {
        CHECK.part("promise 8");
        CashLink x = new CashLink();
        CHECK.outOfBounds("no MESSAGE yet", () -> x.deliver(0));
        CHECK.outOfBounds("-1", () -> x.deliver(-1));
        Bench.asked(x, 0, 7, 100);
        CHECK.outOfBounds("no MESSAGE 1", () -> x.deliver(1));
        CHECK.outOfBounds("far", () -> x.deliver(Integer.MAX_VALUE));
        CHECK.same("0200", 1, x.deliver(0));
        x.jam(0, 1);
        CHECK.same("0210, and 0420 of the rest", 1, x.deliver(1));
        CHECK.same("0420", 1, x.deliver(2));
        CHECK.same("0430", 0, x.deliver(3));
        CHECK.same("taken", 50, x.taken(7));
        CHECK.same("balance", 450, x.balance(7));
        CHECK.same("0210 twice does nothing", 0, x.deliver(1));
        CHECK.same("0430 twice does nothing", 0, x.deliver(3));
        CHECK.same("RECORDS 1 to 5", 5, x.told(0, 3));
        CHECK.same("taken once", 50, x.taken(7));
    }

    private static void answersAreSaidAgain() {
        CHECK.part("Term 5, doubled");
        CashLink x = new CashLink();
        Bench.asked(x, 1, 7, 300);
        x.deliver(0);
        x.deliver(0);
        CHECK.holds("the same answer", Bench.text(x, 1).equals(Bench.text(x, 2)));
        CHECK.same("one RECORD", 1, x.count(2));
        CHECK.same("the BALANCE falls once", 200, x.balance(7));
        x.cancel(1);
        x.deliver(3);
        x.deliver(3);
        CHECK.holds("0430 again", Bench.text(x, 4).equals(Bench.text(x, 5)));
        CHECK.same("two RECORDS", 2, x.count(2));
        CHECK.same("given back once", 500, x.balance(7));
        x.deliver(0);
        CHECK.holds("0200 as RECORD 6 says, though reversed", Bench.text(x, 6).equals(Bench.text(x, 1)));
        CHECK.same("the BALANCE stays", 500, x.balance(7));
    }

    private static void reversalBeforeRequest() {
        CHECK.part("Term 5, disordered");
        CashLink x = new CashLink();
        Bench.asked(x, 1, 7, 300);
        x.cancel(1);
        CHECK.same("0430", 1, x.deliver(1));
        CHECK.same("nothing is given back", 500, x.balance(7));
        CHECK.same("0210", 1, x.deliver(0));
        CHECK.holds("answer 3", Bench.text(x, 3).equals("0210" + "0020000002800000" + "000001" + "03" + "00000001"));
        CHECK.same("the BALANCE does not fall", 500, x.balance(7));
        CHECK.same("RECORDS 7 and 6", 2, x.count(2));
    }

    private static void tooLittle() {
        CHECK.part("Term 5, too little");
        CashLink x = new CashLink();
        Bench.withdrawn(x, 0, 7, 495);
        int k = Bench.answered(x, 1, 7, 10);
        CHECK.holds("answer 1", Bench.text(x, k).equals("0210" + "0020000002800000" + "000001" + "01" + "00000001"));
        CHECK.same("0210", 0, x.deliver(k));
        CHECK.same("EMPTY", 1, x.told(1, 0));
        CHECK.same("RECORDS 1 and 5", 2, x.told(1, 3));
        CHECK.same("no VOID", 0, x.told(1, 2));
        CHECK.same("nothing to finish", 2, x.on(1));
        CHECK.same("still RECORDS 1 and 5", 2, x.told(1, 3));
        Bench.withdrawn(x, 1, 7, 5);
        CHECK.same("just enough", 0, x.balance(7));
        CHECK.same("taken", 500, x.taken(7));
    }

    private static void declinedAndReversed() {
        CHECK.part("Term 5, declined and late");
        CashLink x = new CashLink();
        Bench.answered(x, 1, 7, 600);
        x.cancel(1);
        CHECK.same("0430", 1, x.deliver(2));
        CHECK.same("nothing is given back", 500, x.balance(7));
        x.deliver(3);
        CHECK.same("settle", 0, x.settle(1));
        x.deliver(4);
        CHECK.same("no wrong total", 0, x.count(6));
    }

    private static void delayedTotals() {
        CHECK.part("Term 5, totals up to a TRACE");
        CashLink x = new CashLink();
        Bench.withdrawn(x, 1, 7, 50);
        Bench.withdrawn(x, 0, 8, 20);
        x.settle(1);
        int k = x.count(0) - 1;
        Bench.withdrawn(x, 1, 7, 100);
        Bench.answered(x, 1, 9, 5);
        CHECK.same("0510", 1, x.deliver(k));
        CHECK.sameText("answer 0", "0510" + "0020000002800000" + "0000010000000001", Bench.text(x, Bench.last(x)));
        CHECK.same("no wrong total", 0, x.count(6));
    }

    private static void off() {
        CHECK.part("promise 8, OFF");
        CashLink x = new CashLink();
        Bench.asked(x, 0, 7, 100);
        x.power(4, 0, 4);
        CHECK.powerFails("0200", () -> x.deliver(0));
        CHECK.same("OFF", 0, x.count(1));
        CHECK.same("0200 does nothing", 0, x.deliver(0));
        x.cancel(0);
        CHECK.same("0420 does nothing", 0, x.deliver(1));
        x.settle(1);
        CHECK.same("0500 does nothing", 0, x.deliver(2));
        CHECK.same("no RECORD", 0, x.count(2));
        CHECK.same("on", 0, x.on(4));
        CHECK.same("0420", 1, x.deliver(1));
        x.power(0, 0, 0);
        CHECK.powerFails("0430", () -> x.deliver(3));
        CHECK.same("0430 does nothing", 0, x.deliver(3));
        CHECK.same("0210 is sent", 1, x.deliver(0));
        CHECK.same("0210 does nothing", 0, x.deliver(4));
        CHECK.same("RECORDS", 2, x.told(0, 3));
    }
}
