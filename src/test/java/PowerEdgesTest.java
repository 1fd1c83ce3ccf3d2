/** Promises 11 and 12, sentence by sentence where they name an edge: power and on. */
public final class PowerEdgesTest {
    private static final Check CHECK = new Check();

    public static void main(String[] args) {
        numberOfTheRecord();
        itDoesNotFail();
        saidAnew();
        onlyThatOne();
        onOfWhatIsOn();
        wholeRecords();
        beforeItWroteAny();
        powerFailsInTurningOn();
        CHECK.end();
    }

    private static void numberOfTheRecord() {
        CHECK.sentence("Promise 11", "Power fails at RECORD number k (0: the next one) from now on");
        for (int k : new int[] {0, 1, 2, 49, 50}) {
            CashLink x = new CashLink();
            Bench.withdrawn(x, 2, 1, 10);
            x.power(2, k, 0);
            boolean failed = false;
            for (int a = 10; a < 30 && !failed; a++) {
                int account = a;
                failed = Bench.fails(() -> Bench.withdrawn(x, 2, account, 10));
            }
            CHECK.holds("power fails", failed);
            CHECK.same("at RECORD " + k, 3 + k, x.told(2, 3));
        }
    }

    private static void itDoesNotFail() {
        CHECK.sentence("Promise 11", "17: it does not fail; what was said before is forgotten");
        for (int w : new int[] {0, Bench.BANK}) {
            for (int k : new int[] {0, 50}) {
                CashLink x = new CashLink();
                x.power(w, 0, 0);
                x.power(w, k, 17);
                for (int a = 0; a < 20; a++) {
                    Bench.withdrawn(x, 0, a, 10);
                }
                CHECK.same("RECORDS of the MACHINE", 60, x.told(0, 3));
                CHECK.same("RECORDS of the BANK", 20, x.count(2));
            }
        }
    }

    private static void saidAnew() {
        CHECK.sentence("Promise 11", "what was said before is forgotten");
        CashLink x = new CashLink();
        x.power(0, 0, 0);
        x.power(0, 1, 16);
        int k = Bench.answered(x, 0, 7, 10);
        CHECK.powerFails("RECORD 2", () -> x.deliver(k));
        CHECK.same("whole", 2, x.told(0, 3));
    }

    private static void onlyThatOne() {
        CHECK.sentence("Promise 11", "of MACHINE w, of the BANK if w is 4");
        for (int w = 0; w <= Bench.BANK; w++) {
            CashLink x = new CashLink();
            x.power(w, 0, 0);
            for (int m = 0; m < 4; m++) {
                int machine = m;
                boolean failed = Bench.fails(() -> Bench.asked(x, machine, 7, 10));
                CHECK.same("ask at " + m, m == w ? 1 : 0, failed ? 1 : 0);
            }
            boolean failed = Bench.fails(() -> x.deliver(0));
            CHECK.same("the BANK", w == Bench.BANK ? 1 : 0, failed ? 1 : 0);
        }
    }

    private static void onOfWhatIsOn() {
        CHECK.sentence("Promise 12", "It is turned OFF (if it is ON), and ON");
        CashLink x = new CashLink();
        x.card(0, 7);
        Bench.ready(x, 1, 7);
        Bench.answered(x, 2, 7, 100);
        for (int m = 0; m < 4; m++) {
            x.on(m);
            CHECK.same("EMPTY", 1, x.told(m, 0));
        }
        CHECK.same("what WAITED is a VOID", 1, x.told(2, 2));
        CHECK.same("0210 comes too late", 0, x.deliver(1));
        CHECK.same("the BANK had one RECORD", 1, x.on(Bench.BANK));
        CHECK.same("it is ON", 1, x.count(1));
        CHECK.same("and has it still", 400, x.balance(7));
    }

    private static void wholeRecords() {
        CHECK.sentence("Promise 12", "how many whole RECORDS its JOURNAL had");
        CashLink x = new CashLink();
        for (int w = 0; w <= Bench.BANK; w++) {
            CHECK.same("none", 0, x.on(w));
        }
        for (Scene scene : Scene.values()) {
            for (int b : new int[] {0, 15, 16}) {
                CashLink y = scene.failed(b);
                int due = scene.records(y);
                CHECK.same(scene.record + ", " + b + " bytes", due, y.on(scene.w));
                CHECK.holds(scene.record + ": ON", scene.isOn(y));
            }
        }
    }

    private static void beforeItWroteAny() {
        CHECK.sentence("Promise 12", "(Before it wrote any itself.)");
        CashLink x = new CashLink();
        Scene.ON_AFTER_2.prepare(x);
        CHECK.same("RECORDS 1 and 2", 2, x.on(0));
        CHECK.same("3 and 4 are written", 4, x.told(0, 3));
        CHECK.same("all four", 4, x.on(0));
        CHECK.same("no more are written", 4, x.told(0, 3));
    }

    private static void powerFailsInTurningOn() {
        CHECK.sentence("Promise 12", "ArithmeticException if power fails in that (it is OFF then)");
        for (Scene scene : new Scene[] {Scene.ON_AFTER_1, Scene.ON_AFTER_2, Scene.ON_AFTER_2_REST, Scene.ON_AFTER_3}) {
            for (int b = 0; b <= 16; b++) {
                CashLink x = scene.failed(b);
                CHECK.same(scene.record + ": OFF", 0, x.told(0, 0));
                x.on(0);
                CHECK.same(scene.record + ": ON at last", 1, x.told(0, 0));
                CHECK.same(scene.record + ": one VOID", 1, x.told(0, 2));
                Bench.reversed(x, 0);
                CHECK.same(scene.record + ": even", 500, x.balance(7) + x.taken(7));
                CHECK.same(scene.record + ": settled", x.taken(7), x.settle(0));
            }
        }
    }
}
