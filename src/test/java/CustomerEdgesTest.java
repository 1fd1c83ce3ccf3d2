/** Promises 1 to 7 and 13, sentence by sentence where they name an edge: from the card to settle and told. */
public final class CustomerEdgesTest {
    private static final Check CHECK = new Check();

    public static void main(String[] args) {
        allIsOn();
        cardsOfAllMachines();
        thirdWrongPin();
        rightAfterTwoWrong();
        wrongPinsAreOfTheCard();
        farPins();
        smallestAndLargest();
        staysReady();
        beforeAnyRecord();
        askAndPower();
        cancelWithoutRecord();
        cancelAndPower();
        againOfNone();
        againInOrder();
        settleOfNothing();
        settleByRecords3();
        settleInEachState();
        toldStates();
        toldWithoutAny();
        toldOff();
        toldOfTheDispenser();
        all512Calls();
        CHECK.end();
    }

    private static void allIsOn() {
        CHECK.sentence("Promise 1", "All is ON and EMPTY");
        CashLink x = new CashLink();
        for (int m = 0; m < 4; m++) {
            CHECK.same("EMPTY", 1, x.told(m, 0));
            CHECK.same("no RECORDS", 0, x.told(m, 3));
            CHECK.same("no VOIDS", 0, x.told(m, 2));
        }
        CHECK.same("the BANK is ON", 1, x.count(1));
        CHECK.same("no RECORDS", 0, x.count(2));
        CHECK.same("no MESSAGES", 0, x.count(0));
        x.card(0, 7);
        CashLink y = new CashLink();
        CHECK.same("each object by itself", 1, y.told(0, 0));
    }

    private static void cardsOfAllMachines() {
        CHECK.sentence("Promise 2", "A card of ACCOUNT a comes into MACHINE m");
        CashLink x = new CashLink();
        for (int m = 0; m < 4; m++) {
            x.card(m, 199 - m);
            for (int other = 0; other < 4; other++) {
                CHECK.same("told(" + other + ", 0)", other <= m ? 2 : 1, x.told(other, 0));
            }
        }
        for (int m = 0; m < 4; m++) {
            CHECK.holds("the PIN of its ACCOUNT", x.pin(m, Bench.pinOf(199 - m)));
        }
    }

    private static void thirdWrongPin() {
        CHECK.sentence("Promise 3", "with the third wrong one the card is kept (EMPTY)");
        CashLink x = new CashLink();
        x.card(0, 7);
        int[] due = {2, 2, 1};
        for (int i = 0; i < 3; i++) {
            CHECK.holds("wrong", !x.pin(0, 1000));
            CHECK.same("after wrong one " + i, due[i], x.told(0, 0));
        }
        CHECK.illegalState("the right one comes too late", () -> x.pin(0, Bench.pinOf(7)));
        x.card(0, 7);
        CHECK.same("another card comes in", 2, x.told(0, 0));
    }

    private static void rightAfterTwoWrong() {
        CHECK.sentence("Promise 3", "true, and READY, if it is right");
        for (int wrong = 0; wrong <= 2; wrong++) {
            CashLink x = new CashLink();
            x.card(0, 7);
            for (int i = 0; i < wrong; i++) {
                x.pin(0, 0);
            }
            CHECK.holds("right after " + wrong + " wrong ones", x.pin(0, Bench.pinOf(7)));
            CHECK.same("READY", 3, x.told(0, 0));
        }
    }

    private static void wrongPinsAreOfTheCard() {
        CHECK.sentence("Term 4", "a CARD (of an ACCOUNT, with how many PINS were wrong)");
        CashLink x = new CashLink();
        for (int i = 0; i < 3; i++) {
            x.card(0, 7);
            x.pin(0, 0);
            x.pin(0, 0);
            CHECK.same("two are wrong", 2, x.told(0, 0));
            if (i == 1) {
                x.on(0);
            } else {
                x.cancel(0);
            }
        }
        x.card(1, 7);
        x.pin(1, 0);
        x.card(0, 7);
        x.pin(0, 0);
        x.pin(0, 0);
        x.pin(1, 0);
        CHECK.same("each MACHINE by itself", 2, x.told(0, 0));
        CHECK.same("each MACHINE by itself", 2, x.told(1, 0));
        CHECK.holds("not of another ACCOUNT", !x.pin(0, Bench.pinOf(8)));
        CHECK.same("kept", 1, x.told(0, 0));
    }

    private static void farPins() {
        CHECK.sentence("Promise 3", "A PIN: true, and READY, if it is right");
        for (int p : new int[] {Integer.MIN_VALUE, -1259, -1, 0, 259, Integer.MAX_VALUE}) {
            CashLink x = new CashLink();
            x.card(0, 7);
            CHECK.holds("wrong: " + p, !x.pin(0, p));
            CHECK.same("a CARD", 2, x.told(0, 0));
        }
    }

    private static void smallestAndLargest() {
        CHECK.sentence("Promise 4", "v is not 5 to 1000");
        CashLink x = new CashLink();
        Bench.ready(x, 0, 7);
        Bench.ready(x, 1, 7);
        CHECK.illegalArgument("4", () -> x.ask(0, 4));
        CHECK.same("5", 1, x.ask(0, 5));
        CHECK.illegalArgument("1001", () -> x.ask(1, 1001));
        CHECK.same("1000", 1, x.ask(1, 1000));
    }

    private static void staysReady() {
        CHECK.sentence("Promise 4", "UnsupportedOperationException if there is no MIX of v (it stays READY)");
        CashLink x = new CashLink();
        Bench.ready(x, 0, 7);
        for (int v : new int[] {6, 9, 11, 501, 999}) {
            CHECK.unsupported("ask for " + v, () -> x.ask(0, v));
            CHECK.same("READY", 3, x.told(0, 0));
        }
        CHECK.same("the first TRACE", 1, x.ask(0, 10));
        x.deliver(Bench.passed(x, 0));
        CHECK.same("its customer's", 10, x.taken(7));
    }

    private static void beforeAnyRecord() {
        CHECK.sentence("Promise 4", "(both before any RECORD)");
        CashLink x = new CashLink();
        Bench.ready(x, 0, 7);
        x.power(0, 0, 0);
        CHECK.unsupported("no RECORD, so that power does not fail", () -> x.ask(0, 7));
        CHECK.illegalArgument("nor here", () -> x.ask(0, 3));
        CHECK.same("READY", 3, x.told(0, 0));
        CHECK.powerFails("with the RECORD", () -> x.ask(0, 10));
    }

    private static void askAndPower() {
        CHECK.sentence("Promise 4", "ArithmeticException if power fails");
        for (int b = 0; b <= 16; b++) {
            CashLink x = Scene.ASK.aboutToFail(b);
            CHECK.powerFails("ask", () -> x.ask(0, 100));
            CHECK.same("OFF", 0, x.told(0, 0));
            CHECK.same("no MESSAGE", 0, x.count(0));
        }
    }

    private static void cancelWithoutRecord() {
        CHECK.sentence("Promise 5", "With a CARD or READY: EMPTY");
        CashLink x = new CashLink();
        x.power(0, 0, 0);
        x.card(0, 7);
        x.cancel(0);
        CHECK.same("EMPTY after a CARD", 1, x.told(0, 0));
        Bench.ready(x, 0, 7);
        x.cancel(0);
        CHECK.same("EMPTY after READY", 1, x.told(0, 0));
        CHECK.same("no RECORD", 0, x.told(0, 3));
        CHECK.same("no VOID", 0, x.told(0, 2));
        CHECK.same("no MESSAGE", 0, x.count(0));
    }

    private static void cancelAndPower() {
        CHECK.sentence("Promise 5", "ArithmeticException if power fails");
        for (int b = 0; b <= 16; b++) {
            CashLink x = Scene.LATE.aboutToFail(b);
            CHECK.powerFails("cancel", () -> x.cancel(0));
            CHECK.same("OFF", 0, x.told(0, 0));
            CHECK.same("no 0420", 1, x.count(0));
        }
    }

    private static void againOfNone() {
        CHECK.sentence("Promise 6", "how many VOIDS");
        CashLink x = new CashLink();
        CHECK.same("none", 0, x.again(0));
        Bench.withdrawn(x, 0, 7, 10);
        CHECK.same("none after a withdrawal", 0, x.again(0));
        Bench.asked(x, 1, 7, 10);
        CHECK.same("none while it WAITS", 0, x.again(1));
        x.cancel(1);
        CHECK.same("one", 1, x.again(1));
        CHECK.same("none of another MACHINE", 0, x.again(0));
        CHECK.same("MESSAGES", 5, x.count(0));
    }

    private static void againInOrder() {
        CHECK.sentence("Promise 6", "For each of the VOIDS, in order, 0420 is sent again");
        CashLink x = new CashLink();
        int[] rests = {85, 35, 15};
        for (int i = 0; i < 3; i++) {
            x.jam(0, i);
            Bench.withdrawn(x, 0, 7, 85);
        }
        for (int time = 0; time < 2; time++) {
            int k = x.count(0);
            CHECK.same("again", 3, x.again(0));
            for (int i = 0; i < 3; i++) {
                CHECK.same("0420", 420, Bench.typeOf(x, k + i));
                CHECK.same("TRACE", i + 1, Bench.traceOf(x, k + i));
                CHECK.same("the rest", rests[i], Bench.amountOf(x, k + i));
            }
        }
        CHECK.same("no RECORD by that", 12, x.told(0, 3));
    }

    private static void settleOfNothing() {
        CHECK.sentence("Promise 7", "TRACE that of its last withdrawal (0 without)");
        CashLink x = new CashLink();
        CHECK.same("nothing", 0, x.settle(3));
        CHECK.same("TRACE 0", 0, Bench.traceOf(x, 0));
        CHECK.same("amount 0", 0, Bench.amountOf(x, 0));
        Bench.withdrawn(x, 3, 7, 600);
        CHECK.same("nothing with a declined one", 0, x.settle(3));
        CHECK.same("TRACE 1", 1, Bench.traceOf(x, Bench.last(x)));
        x.on(3);
        x.settle(3);
        CHECK.same("TRACE 1 after on", 1, Bench.traceOf(x, Bench.last(x)));
    }

    private static void settleByRecords3() {
        CHECK.sentence("Promise 7", "with what came out of the MACHINE's DISPENSER by its RECORDS 3");
        CashLink x = new CashLink();
        Bench.withdrawn(x, 0, 7, 100);
        Bench.withdrawn(x, 1, 7, 60);
        x.jam(0, 1);
        Bench.withdrawn(x, 0, 7, 85);
        Bench.reversed(x, 0);
        Bench.asked(x, 0, 7, 20);
        x.cancel(0);
        Bench.reversed(x, 0);
        CHECK.same("all and a part", 150, x.settle(0));
        CHECK.same("as it is in 0500", 150, Bench.amountOf(x, Bench.last(x)));
        CHECK.same("the last TRACE", 3, Bench.traceOf(x, Bench.last(x)));
        CHECK.same("another MACHINE", 60, x.settle(1));
    }

    private static void settleInEachState() {
        CHECK.sentence("Promise 7", "IllegalStateException if it is OFF, WAITS, or has VOIDS");
        CashLink x = new CashLink();
        CHECK.same("EMPTY", 0, x.settle(0));
        x.card(0, 7);
        CHECK.same("a CARD", 0, x.settle(0));
        x.pin(0, Bench.pinOf(7));
        CHECK.same("READY", 0, x.settle(0));
        x.ask(0, 10);
        CHECK.illegalState("WAITS", () -> x.settle(0));
        x.cancel(0);
        CHECK.illegalState("has VOIDS", () -> x.settle(0));
        x.card(0, 7);
        CHECK.illegalState("has VOIDS and a CARD", () -> x.settle(0));
        CHECK.same("no 0500 by that", 5, x.count(0));
        CHECK.same("another MACHINE", 0, x.settle(1));
        Bench.reversed(x, 0);
        CHECK.same("no VOIDS any more", 0, x.settle(0));
        x.pin(0, Bench.pinOf(7));
        x.power(0, 0, 0);
        CHECK.powerFails("ask", () -> x.ask(0, 10));
        CHECK.illegalState("OFF", () -> x.settle(0));
    }

    private static void toldStates() {
        CHECK.sentence("Promise 13", "0 OFF, 1 EMPTY, 2 a CARD, 3 READY, 4 it WAITS");
        CashLink x = new CashLink();
        CHECK.same("EMPTY", 1, x.told(0, 0));
        x.card(0, 7);
        CHECK.same("a CARD", 2, x.told(0, 0));
        x.pin(0, Bench.pinOf(7));
        CHECK.same("READY", 3, x.told(0, 0));
        x.ask(0, 5);
        CHECK.same("it WAITS", 4, x.told(0, 0));
        x.power(0, 0, 3);
        CHECK.powerFails("cancel", () -> x.cancel(0));
        CHECK.same("OFF", 0, x.told(0, 0));
        x.on(0);
        CHECK.same("EMPTY", 1, x.told(0, 0));
    }

    private static void toldWithoutAny() {
        CHECK.sentence("Promise 13", "its last TRACE (0 without)");
        CashLink x = new CashLink();
        for (int what : new int[] {1, 2, 3, 8, 9, 10}) {
            CHECK.same("what " + what, 0, x.told(3, what));
        }
        Bench.asked(x, 3, 7, 10);
        CHECK.same("the TRACE for which it WAITS", 1, x.told(3, 1));
        CHECK.same("no DISPENSE yet", 0, x.told(3, 8));
    }

    private static void toldOff() {
        CHECK.sentence("Promise 13", "(1, 2 of one that is OFF: -1.)");
        CashLink x = Scene.CAME_OUT.failed(16);
        int[] due = {0, -1, -1, 3, 30, 30, 30, 29, 1, 50, 50};
        for (int what = 0; what < due.length; what++) {
            CHECK.same("what " + what, due[what], x.told(0, what));
        }
        CHECK.same("not of another MACHINE", 0, x.told(1, 1));
        CHECK.same("not of another MACHINE", 0, x.told(1, 2));
        x.on(0);
        CHECK.same("1 when it is ON", 1, x.told(0, 1));
        CHECK.same("2 when it is ON", 1, x.told(0, 2));
    }

    private static void toldOfTheDispenser() {
        CHECK.sentence("Promise 13", "the TRACE that its DISPENSER did last (0 without)");
        CashLink x = new CashLink();
        Bench.withdrawn(x, 0, 7, 85);
        Bench.withdrawn(x, 0, 8, 600);
        Bench.asked(x, 0, 9, 10);
        int[] due = {4, 3, 0, 6, 29, 29, 29, 29, 1, 85, 85};
        for (int what = 0; what < due.length; what++) {
            CHECK.same("what " + what, due[what], x.told(0, what));
        }
        x.deliver(Bench.passed(x, Bench.last(x)));
        CHECK.same("TRACE", 3, x.told(0, 8));
        CHECK.same("its value", 10, x.told(0, 9));
        CHECK.same("the value of all", 95, x.told(0, 10));
    }

    /** The last two of the calls are settle and deliver; what is asked behind them is free, but tells how they went. */
    private static void all512Calls() {
        CHECK.part("What it is, \"An object is used for at most 512 calls after it has been made\"");
        CashLink x = new CashLink();
        for (int i = 0; i < 102; i++) {
            int m = i % 4;
            x.card(m, i);
            CHECK.holds("pin", x.pin(m, Bench.pinOf(i)));
            CHECK.same("ask", i / 4 + 1, x.ask(m, 10));
            CHECK.same("0200", 1, x.deliver(2 * i));
            CHECK.same("0210", 0, x.deliver(2 * i + 1));
        }
        CHECK.same("settle", 260, x.settle(0));
        CHECK.same("0500", 1, x.deliver(204));
        CHECK.same("its answer", 0, Bench.answerOf(x, 205));
        CHECK.same("all BALANCES", 100000 - 1020, x.count(3));
    }
}
