/** What the document names, though no run of calls brings it about: it is brought about by hand. */
public final class NeverTest {
    private static final Check CHECK = new Check();

    public static void main(String[] args) {
        noMixAnyMore();
        noMixAnyMoreAndPower();
        didThatTraceLast();
        tooMuch();
        tooLittle();
        onlyWhenAllIsQuiet();
        wrongTotals();
        wrongTotalsThatWereNotSent();
        CHECK.end();
    }

    private static void noMixAnyMore() {
        CHECK.sentence("Term 4", "MIX as it is now; none: as if it were late");
        CashLink x = new CashLink();
        int k = Bench.answered(x, 0, 7, 85);
        Inside.notes(x, 0)[0] = 0;
        CHECK.same("no MIX", -1, x.mix(0, 85, 0));
        CHECK.same("0420 is sent", 1, x.deliver(k));
        CHECK.same("of the whole amount", 85, Bench.amountOf(x, k + 1));
        CHECK.same("a VOID", 1, x.told(0, 2));
        CHECK.same("EMPTY", 1, x.told(0, 0));
        CHECK.same("RECORDS 1 and 4", 2, x.told(0, 3));
        CHECK.same("no DISPENSE", 0, x.told(0, 8));
        Bench.reversed(x, 0);
        CHECK.same("given back", 500, x.balance(7));
    }

    private static void noMixAnyMoreAndPower() {
        CHECK.sentence("Promise 8", "ArithmeticException if power fails (of the BANK, or of its MACHINE)");
        CashLink x = new CashLink();
        int k = Bench.answered(x, 0, 7, 85);
        Inside.notes(x, 0)[0] = 0;
        x.power(0, 0, 15);
        CHECK.powerFails("RECORD 4", () -> x.deliver(k));
        CHECK.same("nothing is sent", 2, x.count(0));
        CHECK.same("RECORD 1", 1, x.on(0));
        CHECK.same("a VOID", 1, x.told(0, 2));
    }

    private static void didThatTraceLast() {
        CHECK.sentence("Term 1", "if the DISPENSER did that TRACE last, nothing");
        CashLink x = new CashLink();
        int k = Bench.answered(x, 0, 7, 85);
        Inside.did(x, 0, 1, 50);
        x.jam(0, 2);
        CHECK.same("0420 of the rest", 1, x.deliver(k));
        CHECK.same("the rest", 35, Bench.amountOf(x, k + 1));
        CHECK.same("nothing is taken", 0, x.taken(7));
        CHECK.same("all notes are there", 30, x.told(0, 7));
        CHECK.same("nothing came out", 0, x.told(0, 10));
        Bench.withdrawn(x, 0, 8, 85);
        CHECK.same("what jam said was not over with that", 70, x.taken(8));
    }

    /** 1 comes to an ACCOUNT by a RECORD 7 that nobody asked for. */
    private static void giveBack(CashLink x, int account) {
        Inside.records(x, Bench.BANK).add(Inside.record(7, 0, 0, account, 1, 0));
    }

    /** 1 goes from an ACCOUNT by a RECORD 6 that nobody asked for. */
    private static void withdraw(CashLink x, int account) {
        Inside.records(x, Bench.BANK).add(Inside.record(6, 0, 0, account, 1, 0));
    }

    private static void tooMuch() {
        CHECK.sentence("Promise 18", "ACCOUNTS for which 500 is less than BALANCE and what was taken together");
        CashLink x = new CashLink();
        Bench.withdrawn(x, 1, 100, 495);
        CHECK.same("none", 0, x.count(4));
        giveBack(x, 0);
        CHECK.same("ACCOUNT 0", 1, x.count(4));
        giveBack(x, 199);
        giveBack(x, 199);
        CHECK.same("ACCOUNT 199 too", 2, x.count(4));
        giveBack(x, 100);
        CHECK.same("one that took something", 3, x.count(4));
        withdraw(x, 50);
        CHECK.same("not one that has less", 3, x.count(4));
        CHECK.same("all BALANCES", 99508, x.count(3));
    }

    private static void tooLittle() {
        CHECK.sentence("Promise 18", "ACCOUNTS for which 500 is not BALANCE and what was taken together");
        CashLink x = new CashLink();
        Bench.withdrawn(x, 1, 100, 495);
        CHECK.same("none", 0, x.count(5));
        withdraw(x, 0);
        withdraw(x, 199);
        CHECK.same("two that have less", 2, x.count(5));
        giveBack(x, 1);
        CHECK.same("one that has more", 3, x.count(5));
        giveBack(x, 0);
        CHECK.same("one is even again", 2, x.count(5));
    }

    private static void onlyWhenAllIsQuiet() {
        CHECK.sentence("Promise 18", "5: if no MACHINE is OFF or WAITS or has VOIDS");
        for (int m = 0; m < 4; m++) {
            CashLink x = new CashLink();
            giveBack(x, 0);
            CHECK.same("EMPTY", 1, x.count(5));
            x.card(m, 7);
            CHECK.same("a CARD", 1, x.count(5));
            x.pin(m, Bench.pinOf(7));
            CHECK.same("READY", 1, x.count(5));
            x.ask(m, 10);
            CHECK.same("WAITS", 0, x.count(5));
            x.cancel(m);
            CHECK.same("has VOIDS", 0, x.count(5));
            Bench.reversed(x, m);
            CHECK.same("has none", 1, x.count(5));
            x.power(m, 0, 0);
            int machine = m;
            CHECK.holds("power fails", Bench.fails(() -> Bench.asked(x, machine, 7, 10)));
            CHECK.same("OFF", 0, x.count(5));
            CHECK.same("what 4 counts all the same", 1, x.count(4));
            x.on(m);
            CHECK.same("ON", 1, x.count(5));
        }
    }

    private static void wrongTotals() {
        CHECK.sentence("Term 5", "else 4; 0510 is sent");
        CashLink x = new CashLink();
        x.settle(0);
        x.settle(1);
        withdraw(x, 7);
        CHECK.same("0510", 1, x.deliver(0));
        CHECK.same("answer 4", 4, Bench.answerOf(x, 2));
        CHECK.same("one of another answer than 0", 1, x.count(6));
        CHECK.same("0510 again", 1, x.deliver(0));
        CHECK.same("two", 2, x.count(6));
        CHECK.same("0510 of another MACHINE", 1, x.deliver(1));
        CHECK.same("answer 0", 0, Bench.answerOf(x, 4));
        CHECK.same("still two", 2, x.count(6));
        giveBack(x, 7);
        x.deliver(0);
        CHECK.same("answer 0", 0, Bench.answerOf(x, 5));
        giveBack(x, 7);
        x.deliver(0);
        CHECK.same("answer 4 also if it is less", 4, Bench.answerOf(x, 6));
        CHECK.same("three", 3, x.count(6));
    }

    private static void wrongTotalsThatWereNotSent() {
        CHECK.sentence("Promise 18", "6: 0510 that were sent with another answer than 0");
        CashLink x = Bench.filled(2999);
        Inside.records(x, Bench.BANK).add(Inside.record(6, 3, 0, 7, 5, 0));
        CHECK.same("the last is sent", 1, x.deliver(2));
        CHECK.same("one", 1, x.count(6));
        CHECK.same("no more are sent", 0, x.deliver(2));
        CHECK.same("still one", 1, x.count(6));
    }
}
