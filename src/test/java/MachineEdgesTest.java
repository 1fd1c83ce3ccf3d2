/** Term 4 and promises 4 to 7, sentence by sentence where they name an edge: what a MACHINE does. */
public final class MachineEdgesTest {
    private static final Check CHECK = new Check();

    public static void main(String[] args) {
        tracesFrom1();
        onlyTheTraceForWhichItWaits();
        onlyWhenItWaits();
        lessThanTheAmount();
        otherAnswers();
        aVoidIsOne();
        late();
        reversalAnswered();
        otherMessages();
        whenItIsOff();
        onVoids();
        onOnlyRecord1();
        onDispensed();
        onNotDispensed();
        onRecord3WithLess();
        onRecord3WithAll();
        onRecord4();
        onRecord5();
        onOnlyTheLast();
        CHECK.end();
    }

    private static void tracesFrom1() {
        CHECK.sentence("Term 4", "a TRACE is the number of its withdrawals so far, from 1 on");
        CashLink x = new CashLink();
        for (int m = 0; m < 4; m++) {
            CHECK.same("none", 0, x.told(m, 1));
            for (int trace = 1; trace <= 3; trace++) {
                Bench.ready(x, m, 7);
                CHECK.same("ask", trace, x.ask(m, 5));
                CHECK.same("the last", trace, x.told(m, 1));
                x.cancel(m);
            }
            x.on(m);
            CHECK.same("by its RECORDS", 3, x.told(m, 1));
        }
    }

    private static void onlyTheTraceForWhichItWaits() {
        CHECK.sentence("Term 4", "0210 of the TRACE for which it WAITS comes");
        CashLink x = new CashLink();
        int first = Bench.answered(x, 0, 7, 100);
        x.cancel(0);
        int second = Bench.answered(x, 0, 8, 60);
        Bench.asked(x, 1, 9, 40);
        CHECK.same("of the TRACE before", 0, x.deliver(first));
        CHECK.same("it WAITS still", 4, x.told(0, 0));
        CHECK.same("nothing came out", 0, x.told(0, 10));
        CHECK.same("of the TRACE", 0, x.deliver(second));
        CHECK.same("EMPTY", 1, x.told(0, 0));
        CHECK.same("its amount came out", 60, x.told(0, 9));
        CHECK.same("its customer took it", 60, x.taken(8));
        CHECK.same("not the one before", 0, x.taken(7));
        CHECK.same("the same TRACE of another MACHINE does not count", 4, x.told(1, 0));
    }

    private static void onlyWhenItWaits() {
        CHECK.sentence("Term 4", "Other MESSAGES that come to a MACHINE do nothing");
        CashLink x = new CashLink();
        int k = Bench.answered(x, 0, 7, 100);
        x.deliver(k);
        CHECK.same("EMPTY", 0, x.deliver(k));
        x.card(0, 7);
        CHECK.same("a CARD", 0, x.deliver(k));
        CHECK.same("still a CARD", 2, x.told(0, 0));
        x.pin(0, Bench.pinOf(7));
        CHECK.same("READY", 0, x.deliver(k));
        CHECK.same("still READY", 3, x.told(0, 0));
        CHECK.same("taken once", 100, x.taken(7));
        CHECK.same("no more RECORDS", 3, x.told(0, 3));
    }

    private static void lessThanTheAmount() {
        CHECK.sentence("Term 4", "if that is less than the amount a VOID of the rest");
        for (int j = 0; j <= 4; j++) {
            CashLink x = new CashLink();
            int k = Bench.answered(x, 0, 7, 85);
            x.jam(0, j);
            int rest = new int[] {85, 35, 15, 5, 0}[j];
            CHECK.same("MESSAGES sent", rest > 0 ? 1 : 0, x.deliver(k));
            CHECK.same("VOIDS", rest > 0 ? 1 : 0, x.told(0, 2));
            CHECK.same("RECORDS", rest > 0 ? 4 : 3, x.told(0, 3));
            CHECK.same("EMPTY", 1, x.told(0, 0));
            if (rest > 0) {
                CHECK.same("the rest", rest, Bench.amountOf(x, k + 1));
            }
        }
    }

    private static void otherAnswers() {
        CHECK.sentence("Term 4", "Other answers: RECORD 5 (TRACE). It is EMPTY");
        CashLink x = new CashLink();
        int k = Bench.answered(x, 0, 7, 505);
        CHECK.same("answer 1", 1, Bench.answerOf(x, k));
        CHECK.same("nothing is sent", 0, x.deliver(k));
        CHECK.same("EMPTY", 1, x.told(0, 0));
        CHECK.same("RECORDS 1 and 5", 2, x.told(0, 3));
        CHECK.same("no VOID", 0, x.told(0, 2));
        CHECK.same("no DISPENSE", 0, x.told(0, 8));
        CHECK.same("nothing is taken", 0, x.taken(7));
        CHECK.same("0210 once more", 0, x.deliver(k));
        CHECK.same("no more RECORDS", 2, x.told(0, 3));
    }

    private static void aVoidIsOne() {
        CHECK.sentence("Term 4", "RECORD 4 (TRACE, amount); it is one of the VOIDS; 0420 is sent");
        CashLink x = new CashLink();
        for (int i = 1; i <= 3; i++) {
            int k = Bench.asked(x, 0, 7, 5 * i);
            x.cancel(0);
            CHECK.same("VOIDS", i, x.told(0, 2));
            CHECK.same("RECORDS", 2 * i, x.told(0, 3));
            CHECK.same("0420", 420, Bench.typeOf(x, k + 1));
            CHECK.same("its TRACE", i, Bench.traceOf(x, k + 1));
            CHECK.same("its amount", 5 * i, Bench.amountOf(x, k + 1));
        }
    }

    private static void late() {
        CHECK.sentence("Term 4", "Late: a VOID of the whole amount; it is EMPTY");
        CashLink x = new CashLink();
        int k = Bench.answered(x, 0, 7, 1000);
        x.cancel(0);
        CHECK.same("EMPTY", 1, x.told(0, 0));
        CHECK.same("the whole amount", 1000, Bench.amountOf(x, k + 1));
        x.card(0, 8);
        CHECK.same("another CARD", 2, x.told(0, 0));
    }

    private static void reversalAnswered() {
        CHECK.sentence("Term 4", "0430 of a TRACE of VOIDS: RECORD 5 (TRACE); it is one no more");
        CashLink x = new CashLink();
        Bench.asked(x, 0, 7, 100);
        x.cancel(0);
        Bench.asked(x, 0, 8, 60);
        x.cancel(0);
        int second = Bench.passed(x, 3);
        Bench.asked(x, 0, 9, 20);
        CHECK.same("0430 of the second", 0, x.deliver(second));
        CHECK.same("one VOID is left", 1, x.told(0, 2));
        CHECK.same("it WAITS still", 4, x.told(0, 0));
        CHECK.same("RECORDS", 6, x.told(0, 3));
        CHECK.same("0430 once more", 0, x.deliver(second));
        CHECK.same("does nothing", 6, x.told(0, 3));
        CHECK.same("again", 1, x.again(0));
        CHECK.same("of the first", 1, Bench.traceOf(x, Bench.last(x)));
    }

    private static void otherMessages() {
        CHECK.sentence("Term 4", "Other MESSAGES that come to a MACHINE do nothing");
        CashLink x = new CashLink();
        x.settle(0);
        int totals = Bench.passed(x, 0);
        Bench.asked(x, 0, 7, 100);
        CHECK.same("0510", 0, x.deliver(totals));
        CHECK.same("it WAITS still", 4, x.told(0, 0));
        CHECK.same("no RECORD", 1, x.told(0, 3));
    }

    private static void whenItIsOff() {
        CHECK.sentence("Term 4", "so do all when it is OFF. (deliver answers 0 then, as for a BANK that is OFF.)");
        CashLink x = new CashLink();
        Bench.asked(x, 0, 6, 20);
        x.cancel(0);
        int reversed = Bench.passed(x, 1);
        x.settle(3);
        int granted = Bench.answered(x, 0, 7, 100);
        x.power(0, 0, 0);
        CHECK.powerFails("RECORD 2", () -> x.deliver(granted));
        String before = Snapshot.of(x);
        CHECK.same("0210", 0, x.deliver(granted));
        CHECK.same("0430", 0, x.deliver(reversed));
        CHECK.sameText("all that can be asked", before, Snapshot.of(x));
    }

    private static void onVoids() {
        CHECK.sentence("Term 4", "VOIDS are those with RECORD 4 without 5");
        CashLink x = new CashLink();
        for (int i = 1; i <= 4; i++) {
            Bench.asked(x, 0, 7, 10 * i);
            x.cancel(0);
        }
        x.deliver(Bench.passed(x, 3));
        CHECK.same("RECORDS", 9, x.on(0));
        CHECK.same("VOIDS", 3, x.told(0, 2));
        int k = x.count(0);
        CHECK.same("again", 3, x.again(0));
        int[] traces = {1, 3, 4};
        for (int i = 0; i < 3; i++) {
            CHECK.same("in order", traces[i], Bench.traceOf(x, k + i));
            CHECK.same("with its amount", 10 * traces[i], Bench.amountOf(x, k + i));
        }
    }

    private static void onOnlyRecord1() {
        CHECK.sentence("Term 4", "If the last TRACE has only RECORD 1: a VOID of the amount");
        CashLink[] cutOff = {Scene.ASK.failed(16), Scene.MIX.failed(15), Scene.LATE.failed(15)};
        for (CashLink x : cutOff) {
            CHECK.same("RECORD 1", 1, x.on(0));
            CHECK.same("RECORDS 1 and 4", 2, x.told(0, 3));
            CHECK.same("a VOID", 1, x.told(0, 2));
            CHECK.same("0420", 420, Bench.typeOf(x, Bench.last(x)));
            CHECK.same("of the amount", 100, Bench.amountOf(x, Bench.last(x)));
            CHECK.same("EMPTY", 1, x.told(0, 0));
        }
        CashLink none = Scene.ASK.failed(15);
        CHECK.same("no RECORD", 0, none.on(0));
        CHECK.same("no VOID", 0, none.told(0, 2));
    }

    private static void onDispensed() {
        CHECK.sentence("Term 4", "RECORD 3 with the value, if its DISPENSER did that TRACE last");
        CashLink x = Scene.CAME_OUT.failed(15);
        CHECK.same("RECORDS 1 and 2", 2, x.on(0));
        CHECK.same("RECORDS 3 and 4 are written", 4, x.told(0, 3));
        CHECK.same("a VOID of the rest", 50, Bench.amountOf(x, Bench.last(x)));
        Bench.reversed(x, 0);
        CHECK.same("the value", 50, x.settle(0));
        CashLink all = new CashLink();
        int k = Bench.answered(all, 0, 7, 100);
        all.power(0, 1, 0);
        CHECK.powerFails("at RECORD 3", () -> all.deliver(k));
        CHECK.same("RECORDS 1 and 2", 2, all.on(0));
        CHECK.same("RECORD 3 is written", 3, all.told(0, 3));
        CHECK.same("no VOID of nothing", 0, all.told(0, 2));
        CHECK.same("nothing is sent", 2, all.count(0));
        CHECK.same("the value of all", 100, all.settle(0));
    }

    private static void onNotDispensed() {
        CHECK.sentence("Term 4", "else with 0");
        CashLink x = new CashLink();
        Bench.withdrawn(x, 0, 6, 85);
        int k = Bench.answered(x, 0, 7, 85);
        x.power(0, 0, 16);
        CHECK.powerFails("at RECORD 2", () -> x.deliver(k));
        CHECK.same("RECORDS", 5, x.on(0));
        CHECK.same("RECORDS 3 and 4 are written", 7, x.told(0, 3));
        CHECK.same("a VOID of all", 85, Bench.amountOf(x, Bench.last(x)));
        Bench.reversed(x, 0);
        CHECK.same("only what came out before", 85, x.settle(0));
        CHECK.same("given back", 500, x.balance(7));
        CHECK.same("nothing was taken", 0, x.taken(7));
        CHECK.same("the DISPENSER did the TRACE before", 1, x.told(0, 8));
    }

    private static void onRecord3WithLess() {
        CHECK.sentence("Term 4", "if it has 3 with less than the amount and not 4: a VOID of the rest");
        CashLink[] cutOff = {Scene.CAME_OUT.failed(16), Scene.REST.failed(0), Scene.REST.failed(15)};
        for (CashLink x : cutOff) {
            CHECK.same("RECORDS 1 to 3", 3, x.on(0));
            CHECK.same("RECORD 4 is written", 4, x.told(0, 3));
            CHECK.same("a VOID", 1, x.told(0, 2));
            CHECK.same("0420", 420, Bench.typeOf(x, Bench.last(x)));
            CHECK.same("of the rest", 50, Bench.amountOf(x, Bench.last(x)));
        }
    }

    private static void onRecord3WithAll() {
        CHECK.sentence("Term 4", "if it has 3 with less than the amount");
        CashLink x = new CashLink();
        int k = Bench.answered(x, 0, 7, 100);
        x.power(0, 1, 16);
        CHECK.powerFails("RECORD 3 is whole", () -> x.deliver(k));
        nothingIsWrittenInTurningOn(x, 3, 0);
    }

    private static void onRecord4() {
        CHECK.sentence("Term 4", "and not 4");
        CashLink rest = Scene.REST.failed(16);
        nothingIsWrittenInTurningOn(rest, 4, 1);
        CHECK.same("again", 1, rest.again(0));
        CHECK.same("its amount", 50, Bench.amountOf(rest, Bench.last(rest)));
        CashLink late = Scene.LATE.failed(16);
        nothingIsWrittenInTurningOn(late, 2, 1);
        CHECK.same("again", 1, late.again(0));
        CHECK.same("its amount", 100, Bench.amountOf(late, Bench.last(late)));
    }

    private static void onRecord5() {
        CHECK.sentence("Term 4", "VOIDS are those with RECORD 4 without 5");
        nothingIsWrittenInTurningOn(Scene.REVERSED.failed(16), 3, 0);
        nothingIsWrittenInTurningOn(Scene.DECLINED.failed(16), 2, 0);
        CHECK.part("RECORD 5 is not whole");
        nothingIsWrittenInTurningOn(Scene.REVERSED.failed(15), 2, 1);
    }

    private static void nothingIsWrittenInTurningOn(CashLink x, int records, int voids) {
        int sent = x.count(0);
        CHECK.same("RECORDS", records, x.on(0));
        CHECK.same("none is written", records, x.told(0, 3));
        CHECK.same("VOIDS", voids, x.told(0, 2));
        CHECK.same("nothing is sent", sent, x.count(0));
    }

    private static void onOnlyTheLast() {
        CHECK.sentence("Term 4", "If the last TRACE has only RECORD 1");
        CashLink x = new CashLink();
        x.jam(0, 1);
        Bench.withdrawn(x, 0, 7, 100);
        x.deliver(Bench.passed(x, 2));
        Bench.withdrawn(x, 0, 7, 600);
        Bench.withdrawn(x, 0, 8, 100);
        nothingIsWrittenInTurningOn(x, 10, 0);
        CHECK.same("settle", 150, x.settle(0));
    }
}
