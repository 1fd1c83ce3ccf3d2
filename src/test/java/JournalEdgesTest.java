/** Term 2, sentence by sentence where it names an edge: RECORDS at which power fails. */
public final class JournalEdgesTest {
    private static final Check CHECK = new Check();

    public static void main(String[] args) {
        bytes();
        nothingFollows();
        notWholeGoes();
        countedNowhere();
        traceIsUsedAgain();
        once();
        turningOnCounts();
        CHECK.end();
    }

    private static void bytes() {
        CHECK.sentence("Term 2", "only so many of its bytes are written (16: all)");
        for (Scene scene : Scene.values()) {
            CashLink untouched = new CashLink();
            scene.prepare(untouched);
            int before = scene.records(untouched) + scene.k;
            for (int b = 0; b <= 16; b++) {
                CashLink x = scene.failed(b);
                CHECK.same(scene.record + ", " + b + " bytes", before + (b == 16 ? 1 : 0), scene.records(x));
            }
        }
    }

    private static void nothingFollows() {
        CHECK.sentence("Term 2", "nothing follows, it is OFF");
        for (Scene scene : Scene.values()) {
            CashLink untouched = new CashLink();
            scene.prepare(untouched);
            for (int b : new int[] {0, 15, 16}) {
                CashLink x = scene.failed(b);
                CHECK.holds(scene.record + ": OFF", !scene.isOn(x));
                CHECK.same(scene.record + ": MESSAGES", untouched.count(0), x.count(0));
                boolean notesCame = scene == Scene.CAME_OUT || scene == Scene.REST;
                CHECK.same(scene.record + ": taken", notesCame ? 50 : untouched.taken(7), x.taken(7));
                CHECK.same(scene.record + ": others are ON", scene.w == Bench.BANK ? 0 : 1, x.count(1));
            }
        }
    }

    private static void notWholeGoes() {
        CHECK.sentence("Term 2", "A RECORD that is not whole goes when it is turned ON");
        CashLink x = new CashLink();
        for (int b = 1; b <= 15; b++) {
            Bench.ready(x, 0, 7);
            x.power(0, 0, b);
            CHECK.powerFails("ask", () -> x.ask(0, 10));
            CHECK.same("it is gone", 0, x.on(0));
        }
        Bench.asked(x, 0, 7, 10);
        for (int b = 1; b <= 15; b++) {
            x.power(Bench.BANK, 0, b);
            CHECK.powerFails("0200", () -> x.deliver(0));
            CHECK.same("it is gone", 0, x.on(Bench.BANK));
        }
        x.deliver(Bench.passed(x, 0));
        CHECK.same("RECORDS of the MACHINE", 3, x.told(0, 3));
        CHECK.same("RECORDS of the BANK", 1, x.count(2));
        CHECK.same("the MACHINE reads them", 3, x.on(0));
        CHECK.same("the BANK reads them", 1, x.on(Bench.BANK));
        CHECK.same("settle", 10, x.settle(0));
        CHECK.same("balance", 490, x.balance(7));
    }

    private static void countedNowhere() {
        CHECK.sentence("Term 2", "It is counted nowhere");
        CashLink x = Scene.REQUEST.failed(15);
        CHECK.same("RECORDS of the BANK", 0, x.count(2));
        CHECK.same("balance", 500, x.balance(7));
        CHECK.same("all BALANCES", 100000, x.count(3));
        CashLink y = Scene.REVERSAL.failed(15);
        CHECK.same("RECORDS of the BANK", 1, y.count(2));
        CHECK.same("balance", 400, y.balance(7));
        CashLink z = Scene.CAME_OUT.failed(15);
        CHECK.same("RECORDS of the MACHINE", 2, z.told(0, 3));
        CHECK.same("on", 2, z.on(0));
    }

    private static void traceIsUsedAgain() {
        CHECK.sentence("Term 2", "a withdrawal whose RECORD 1 is not whole is none, the next one has its TRACE");
        CashLink x = new CashLink();
        for (int trace = 1; trace <= 3; trace++) {
            for (int b : new int[] {0, 15}) {
                Bench.ready(x, 0, 7);
                x.power(0, 0, b);
                CHECK.powerFails("ask", () -> x.ask(0, 10));
                x.on(0);
                CHECK.same("the last TRACE", trace - 1, x.told(0, 1));
                CHECK.same("no VOID", 0, x.told(0, 2));
            }
            Bench.ready(x, 0, 7);
            CHECK.same("its TRACE", trace, x.ask(0, 10));
            x.deliver(Bench.passed(x, Bench.last(x)));
        }
        Bench.ready(x, 0, 7);
        x.power(0, 0, 16);
        CHECK.powerFails("ask, RECORD 1 is whole", () -> x.ask(0, 10));
        x.on(0);
        Bench.ready(x, 0, 7);
        CHECK.same("the next TRACE", 5, x.ask(0, 10));
    }

    private static void once() {
        CHECK.sentence("Term 2", "Power fails once, then that is forgotten");
        for (int b : new int[] {0, 16}) {
            CashLink x = new CashLink();
            x.power(0, 0, b);
            x.power(Bench.BANK, 0, b);
            CHECK.holds("of the MACHINE", Bench.fails(() -> Bench.asked(x, 0, 7, 10)));
            x.on(0);
            Bench.asked(x, 0, 7, 10);
            CHECK.powerFails("of the BANK", () -> x.deliver(Bench.last(x)));
            x.on(Bench.BANK);
            x.cancel(0);
            Bench.reversed(x, 0);
            for (int i = 0; i < 10; i++) {
                Bench.withdrawn(x, 0, 8, 10);
            }
            CHECK.same("the MACHINE is ON", 1, x.told(0, 0));
            CHECK.same("the BANK is ON", 1, x.count(1));
            CHECK.same("all went well", 100, x.taken(8));
        }
    }

    private static void turningOnCounts() {
        CHECK.sentence("Term 2", "RECORDS that are written in turning ON count for it, too");
        CashLink x = new CashLink();
        Scene.ON_AFTER_2.prepare(x);
        x.power(0, 2, 16);
        CHECK.same("RECORDS 3 and 4 are written", 2, x.on(0));
        Bench.ready(x, 0, 7);
        CHECK.powerFails("the third", () -> x.ask(0, 10));
        CHECK.same("whole", 5, x.told(0, 3));
        CashLink y = new CashLink();
        Bench.asked(y, 0, 7, 100);
        y.power(0, 0, 0);
        CHECK.powerFails("the first", () -> y.on(0));
    }
}
