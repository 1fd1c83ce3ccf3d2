/** Term 5 and promises 14, 15 and 18, sentence by sentence where they name an edge: the BANK and its books. */
public final class BankEdgesTest {
    private static final Check CHECK = new Check();

    public static void main(String[] args) {
        belowTheAmount();
        declinedStaysDeclined();
        grantedStaysGranted();
        reversedStaysReversed();
        record7ComesFirst();
        ofThisMachineAndTrace();
        reversalOfNothing();
        reversalOfADeclined();
        reversalTwice();
        reversalOfAPart();
        toItsAccount();
        totalsUpToThisTrace();
        totalsOfThisMachine();
        totalsWithoutWhatWasGivenBack();
        nothingWhenOff();
        balancesByRecords();
        balanceWhenOff();
        takenOfAll();
        countOn();
        countRecords();
        countBalances();
        neverAny();
        quietOrNot();
        CHECK.end();
    }

    /** MESSAGE k comes to the BANK: the answer of what was sent. */
    private static int answer(CashLink x, int k) {
        CHECK.same("one MESSAGE is sent", 1, x.deliver(k));
        return Bench.answerOf(x, Bench.last(x));
    }

    private static void belowTheAmount() {
        CHECK.sentence("Term 5", "1 if the BALANCE is below the amount");
        CashLink x = new CashLink();
        CHECK.same("500 of 500", 0, answer(x, Bench.asked(x, 0, 7, 500)));
        CHECK.same("5 of 0", 1, answer(x, Bench.asked(x, 1, 7, 5)));
        CHECK.same("505 of 500", 1, answer(x, Bench.asked(x, 2, 8, 505)));
        CHECK.same("495 of 500", 0, answer(x, Bench.asked(x, 3, 8, 495)));
        x.deliver(Bench.last(x));
        CHECK.same("10 of 5", 1, answer(x, Bench.asked(x, 3, 8, 10)));
        x.deliver(Bench.last(x));
        CHECK.same("5 of 5", 0, answer(x, Bench.asked(x, 3, 8, 5)));
        CHECK.same("balance of the one", 0, x.balance(7));
        CHECK.same("balance of the other", 0, x.balance(8));
        CHECK.same("RECORDS 6 also of the declined", 6, x.count(2));
    }

    private static void declinedStaysDeclined() {
        CHECK.sentence("Term 5", "if there is a RECORD 6 of these: answer as it says");
        CashLink x = new CashLink();
        Bench.answered(x, 0, 7, 500);
        int declined = Bench.asked(x, 1, 7, 100);
        CHECK.same("declined", 1, answer(x, declined));
        x.cancel(0);
        Bench.reversed(x, 0);
        CHECK.same("there is enough now", 500, x.balance(7));
        CHECK.same("still declined", 1, answer(x, declined));
        CHECK.same("balance", 500, x.balance(7));
        CHECK.same("no new RECORD", 3, x.count(2));
    }

    private static void grantedStaysGranted() {
        CHECK.sentence("Term 5", "if there is a RECORD 6 of these: answer as it says");
        CashLink x = new CashLink();
        int granted = Bench.asked(x, 0, 7, 500);
        CHECK.same("granted", 0, answer(x, granted));
        CHECK.same("granted, with nothing left", 0, answer(x, granted));
        CHECK.same("balance", 0, x.balance(7));
        x.cancel(0);
        x.deliver(Bench.last(x));
        CHECK.same("granted, though there is a RECORD 7", 0, answer(x, granted));
        CHECK.same("balance", 500, x.balance(7));
        CHECK.same("RECORDS 6 and 7", 2, x.count(2));
    }

    private static void reversedStaysReversed() {
        CHECK.sentence("Term 5", "the answer is 3 if there is a RECORD 7 of these");
        CashLink x = new CashLink();
        Bench.asked(x, 0, 7, 100);
        x.cancel(0);
        x.deliver(1);
        CHECK.same("reversed", 3, answer(x, 0));
        CHECK.same("RECORDS 7 and 6", 2, x.count(2));
        CHECK.same("reversed again", 3, answer(x, 0));
        CHECK.same("no new RECORD", 2, x.count(2));
        CHECK.same("balance", 500, x.balance(7));
    }

    private static void record7ComesFirst() {
        CHECK.sentence("Term 5", "3 if there is a RECORD 7 of these, 1 if the BALANCE is below the amount");
        CashLink x = new CashLink();
        Bench.asked(x, 0, 7, 505);
        x.cancel(0);
        x.deliver(1);
        CHECK.same("3, not 1", 3, answer(x, 0));
    }

    private static void ofThisMachineAndTrace() {
        CHECK.sentence("Term 5", "0200 of a MACHINE and TRACE");
        CashLink x = new CashLink();
        for (int m = 0; m < 4; m++) {
            CHECK.same("the same TRACE of MACHINE " + m, 0, answer(x, Bench.asked(x, m, 7, 100)));
        }
        CHECK.same("each is one", 100, x.balance(7));
        x.cancel(2);
        x.deliver(Bench.last(x));
        CHECK.same("one is given back", 200, x.balance(7));
        CHECK.same("another TRACE", 0, answer(x, Bench.asked(x, 2, 7, 100)));
        CHECK.same("is another one", 100, x.balance(7));
        CHECK.same("RECORDS", 6, x.count(2));
    }

    private static void reversalOfNothing() {
        CHECK.sentence("Term 5", "the amount, if RECORD 6 of these has answer 0, else 0");
        CashLink x = new CashLink();
        Bench.asked(x, 0, 0, 100);
        x.cancel(0);
        CHECK.same("0430", 1, x.deliver(1));
        CHECK.same("a RECORD 7", 1, x.count(2));
        CHECK.same("all BALANCES", 100000, x.count(3));
    }

    private static void reversalOfADeclined() {
        CHECK.sentence("Term 5", "the amount, if RECORD 6 of these has answer 0, else 0");
        CashLink x = new CashLink();
        Bench.answered(x, 0, 7, 600);
        x.cancel(0);
        CHECK.same("0430", 1, x.deliver(2));
        CHECK.same("RECORDS 6 and 7", 2, x.count(2));
        CHECK.same("balance", 500, x.balance(7));
        CHECK.same("all BALANCES", 100000, x.count(3));
    }

    private static void reversalTwice() {
        CHECK.sentence("Term 5", "0420: if there is no RECORD 7 of these");
        CashLink x = new CashLink();
        Bench.answered(x, 0, 7, 100);
        x.cancel(0);
        x.again(0);
        for (int k = 2; k <= 3; k++) {
            CHECK.same("0430", 1, x.deliver(k));
            CHECK.same("it is 0430", 430, Bench.typeOf(x, Bench.last(x)));
            CHECK.same("given back once", 500, x.balance(7));
            CHECK.same("RECORDS 6 and 7", 2, x.count(2));
        }
    }

    private static void reversalOfAPart() {
        CHECK.sentence("Term 5", "(The amount is that of this 0420: a part, if less came out.)");
        int[] out = {0, 50, 70, 80};
        for (int j = 0; j < out.length; j++) {
            CashLink x = new CashLink();
            x.jam(0, j);
            Bench.withdrawn(x, 0, 7, 85);
            CHECK.same("before", 415, x.balance(7));
            x.deliver(2);
            CHECK.same("after", 500 - out[j], x.balance(7));
        }
    }

    private static void toItsAccount() {
        CHECK.sentence("Term 5", "it comes to the BALANCE of its ACCOUNT");
        CashLink x = new CashLink();
        Bench.answered(x, 0, 199, 100);
        x.cancel(0);
        int reversal = Bench.last(x);
        Bench.answered(x, 0, 0, 60);
        x.deliver(reversal);
        CHECK.same("its ACCOUNT", 500, x.balance(199));
        CHECK.same("another ACCOUNT", 440, x.balance(0));
    }

    private static void totalsUpToThisTrace() {
        CHECK.sentence("Term 5", "what this MACHINE's withdrawals up to this TRACE came to");
        CashLink x = new CashLink();
        x.settle(0);
        int[] totals = new int[4];
        for (int i = 1; i <= 3; i++) {
            Bench.withdrawn(x, 0, 7, 50 * i);
            CHECK.same("settle", 25 * i * (i + 1), x.settle(0));
            totals[i] = Bench.last(x);
        }
        Bench.answered(x, 0, 8, 85);
        for (int i = 3; i >= 0; i--) {
            CHECK.same("delayed, up to TRACE " + i, 0, answer(x, totals[i]));
        }
        CHECK.same("no RECORD by that", 4, x.count(2));
    }

    private static void totalsOfThisMachine() {
        CHECK.sentence("Term 5", "what this MACHINE's withdrawals up to this TRACE came to");
        CashLink x = new CashLink();
        for (int m = 0; m < 4; m++) {
            Bench.withdrawn(x, m, 7, 20 + 5 * m);
        }
        for (int m = 0; m < 4; m++) {
            CHECK.same("settle", 20 + 5 * m, x.settle(m));
            CHECK.same("0510", 0, answer(x, Bench.last(x)));
        }
    }

    private static void totalsWithoutWhatWasGivenBack() {
        CHECK.sentence("Term 5", "(of RECORDS 6 with answer 0, without what RECORDS 7 gave back)");
        CashLink x = new CashLink();
        x.jam(0, 1);
        Bench.withdrawn(x, 0, 7, 85);
        Bench.withdrawn(x, 0, 8, 600);
        Bench.answered(x, 0, 9, 100);
        x.cancel(0);
        Bench.asked(x, 0, 10, 60);
        x.cancel(0);
        Bench.reversed(x, 0);
        CHECK.same("settle", 50, x.settle(0));
        CHECK.same("0510", 0, answer(x, Bench.last(x)));
    }

    private static void nothingWhenOff() {
        CHECK.sentence("Term 5", "It does nothing when it is OFF");
        CashLink x = new CashLink();
        x.settle(3);
        Bench.asked(x, 0, 7, 100);
        Bench.asked(x, 1, 8, 100);
        x.cancel(1);
        x.power(Bench.BANK, 0, 0);
        CHECK.powerFails("0200", () -> x.deliver(1));
        String before = Snapshot.of(x);
        for (int k = 0; k <= 3; k++) {
            CHECK.same("MESSAGE " + k, 0, x.deliver(k));
        }
        CHECK.sameText("all that can be asked", before, Snapshot.of(x));
        x.on(Bench.BANK);
        for (int k = 0; k <= 3; k++) {
            CHECK.same("MESSAGE " + k + " when it is ON", 1, x.deliver(k));
        }
    }

    private static void balancesByRecords() {
        CHECK.sentence("Term 5", "BALANCES are what RECORDS make them");
        CashLink x = new CashLink();
        x.jam(0, 1);
        Bench.withdrawn(x, 0, 7, 85);
        Bench.reversed(x, 0);
        Bench.withdrawn(x, 1, 8, 40);
        Bench.withdrawn(x, 1, 9, 600);
        String before = Snapshot.of(x);
        for (int i = 0; i < 3; i++) {
            CHECK.same("RECORDS", 4, x.on(Bench.BANK));
            CHECK.sameText("all that can be asked", before, Snapshot.of(x));
        }
    }

    private static void balanceWhenOff() {
        CHECK.sentence("Promise 14", "(also when the BANK is OFF: by its RECORDS)");
        for (int b = 0; b <= 16; b++) {
            CashLink x = Scene.REQUEST.failed(b);
            CHECK.same("OFF", 0, x.count(1));
            CHECK.same("RECORD 6, bytes: " + b, b == 16 ? 400 : 500, x.balance(7));
            CashLink y = Scene.REVERSAL.failed(b);
            CHECK.same("OFF", 0, y.count(1));
            CHECK.same("RECORD 7, bytes: " + b, b == 16 ? 500 : 400, y.balance(7));
        }
    }

    private static void takenOfAll() {
        CHECK.sentence("Promise 15", "The value of all that ACCOUNT a's customers took");
        CashLink x = new CashLink();
        for (int m = 0; m < 4; m++) {
            x.jam(m, m);
            Bench.withdrawn(x, m, 199, 85);
        }
        CHECK.same("parts at four MACHINES", 50 + 70 + 80, x.taken(199));
        CHECK.same("not of another ACCOUNT", 0, x.taken(198));
        for (int m = 0; m < 4; m++) {
            Bench.reversed(x, m);
        }
        CHECK.same("what is given back is not taken", 200, x.taken(199));
        CHECK.same("balance", 300, x.balance(199));
        CashLink y = Scene.MIX.failed(16);
        CHECK.same("nothing before DISPENSE", 0, y.taken(7));
        CashLink z = Scene.CAME_OUT.failed(0);
        CHECK.same("with DISPENSE, whatever follows", 50, z.taken(7));
    }

    private static void countOn() {
        CHECK.sentence("Promise 18", "1: 1 if the BANK is ON, else 0");
        CashLink x = Scene.REQUEST.failed(0);
        CHECK.same("OFF", 0, x.count(1));
        x.on(Bench.BANK);
        CHECK.same("ON", 1, x.count(1));
        CashLink y = Scene.ASK.failed(0);
        CHECK.same("ON, though a MACHINE is OFF", 1, y.count(1));
    }

    private static void countRecords() {
        CHECK.sentence("Promise 18", "2: its RECORDS");
        CashLink x = new CashLink();
        CHECK.same("none", 0, x.count(2));
        Bench.asked(x, 0, 7, 100);
        CHECK.same("none of a MACHINE's", 0, x.count(2));
        x.deliver(0);
        CHECK.same("RECORD 6", 1, x.count(2));
        CHECK.same("not whole", 0, Scene.REQUEST.failed(15).count(2));
        CHECK.same("whole", 1, Scene.REQUEST.failed(16).count(2));
    }

    private static void countBalances() {
        CHECK.sentence("Promise 18", "3: all BALANCES");
        CashLink x = new CashLink();
        CHECK.same("at first", 100000, x.count(3));
        Bench.answered(x, 0, 0, 500);
        CHECK.same("one is 0", 99500, x.count(3));
        Bench.answered(x, 1, 199, 500);
        CHECK.same("two are 0", 99000, x.count(3));
    }

    private static void neverAny() {
        CHECK.sentence("Promise 18", "never any");
        for (Scene scene : Scene.values()) {
            for (int b : new int[] {0, 15, 16}) {
                CashLink x = scene.failed(b);
                noneIsWrong(x);
                x.on(scene.w);
                noneIsWrong(x);
                x.on(0);
                Bench.reversed(x, 0);
                noneIsWrong(x);
                x.settle(0);
                x.deliver(Bench.last(x));
                noneIsWrong(x);
                CHECK.same("even", 500, x.balance(7) + x.taken(7));
            }
        }
    }

    private static void noneIsWrong(CashLink x) {
        for (int what = 4; what <= 6; what++) {
            CHECK.same("count(" + what + ")", 0, x.count(what));
        }
    }

    private static void quietOrNot() {
        CHECK.sentence("Promise 18", "5: if no MACHINE is OFF or WAITS or has VOIDS");
        for (int m = 0; m < 4; m++) {
            CashLink x = new CashLink();
            int k = Bench.answered(x, m, 7, 100);
            CHECK.same("not even", 400, x.balance(7) + x.taken(7));
            CHECK.same("WAITS", 0, x.count(5));
            x.power(m, 0, 0);
            CHECK.powerFails("0210", () -> x.deliver(k));
            CHECK.same("not even", 400, x.balance(7) + x.taken(7));
            CHECK.same("OFF", 0, x.count(5));
            x.on(m);
            CHECK.same("not even", 400, x.balance(7) + x.taken(7));
            CHECK.same("has VOIDS", 0, x.count(5));
            Bench.reversed(x, m);
            CHECK.same("even", 500, x.balance(7) + x.taken(7));
            CHECK.same("nothing of that", 0, x.count(5));
        }
    }
}
