/** Promises 9, 10, 13 and 17, with Term 1: jam, load, told, mix. */
public final class DispenserTest {
    private static final Check CHECK = new Check();

    public static void main(String[] args) {
        jam();
        jamEveryNumber();
        jamIsOver();
        jamWaitsForADispense();
        load();
        told();
        mix();
        mixAsItIsThen();
        mostNotes();
        CHECK.end();
    }

    private static void jam() {
        CHECK.part("promise 9");
        CashLink x = new CashLink();
        CHECK.illegalArgument("MACHINE -1", () -> x.jam(-1, 0));
        CHECK.illegalArgument("MACHINE 4", () -> x.jam(4, 0));
        CHECK.illegalArgument("-1", () -> x.jam(0, -1));
        CHECK.illegalArgument("42", () -> x.jam(0, 42));
        x.jam(0, 3);
        x.jam(0, 41);
        Bench.withdrawn(x, 0, 1, 185);
        CHECK.same("41: none does", 185, x.taken(1));
        x.jam(0, 1);
        x.jam(0, 0);
        Bench.withdrawn(x, 0, 2, 100);
        CHECK.same("0: nothing comes out", 0, x.taken(2));
        CHECK.same("a VOID", 1, x.told(0, 2));
        CHECK.same("it did that TRACE", 2, x.told(0, 8));
        CHECK.same("with no value", 0, x.told(0, 9));
        CHECK.same("all that came out", 185, x.told(0, 10));
        Bench.reversed(x, 0);
        CHECK.same("given back", 500, x.balance(2));
    }

    private static void jamEveryNumber() {
        CHECK.part("promise 9, order of notes");
        // 385 is 7 of 50, 1 of 20, 1 of 10, 1 of 5.
        int[] out = {0, 50, 100, 150, 200, 250, 300, 350, 370, 380, 385, 385};
        for (int j = 0; j <= 40; j++) {
            CashLink x = new CashLink();
            x.jam(2, j);
            Bench.withdrawn(x, 2, 1, 385);
            int due = out[Math.min(j, 11)];
            CHECK.same("taken", due, x.taken(1));
            CHECK.same("value", due, x.told(2, 9));
            CHECK.same("VOIDS", due < 385 ? 1 : 0, x.told(2, 2));
            CHECK.same("notes of 50", 30 - Math.min(j, 7), x.told(2, 7));
            CHECK.same("notes of 20", j >= 8 ? 29 : 30, x.told(2, 6));
            CHECK.same("notes of 10", j >= 9 ? 29 : 30, x.told(2, 5));
            CHECK.same("notes of 5", j >= 10 ? 29 : 30, x.told(2, 4));
            Bench.reversed(x, 2);
            CHECK.same("balance", 500 - due, x.balance(1));
            CHECK.same("all is right", 0, x.count(5));
        }
    }

    private static void jamIsOver() {
        CHECK.part("promise 9, over");
        CashLink x = new CashLink();
        x.jam(0, 4);
        Bench.withdrawn(x, 0, 1, 100);
        CHECK.same("no more notes than two: all come out", 100, x.taken(1));
        Bench.withdrawn(x, 0, 2, 385);
        CHECK.same("that was forgotten then", 385, x.taken(2));
        x.jam(0, 1);
        Bench.withdrawn(x, 0, 3, 100);
        CHECK.same("it jams", 50, x.taken(3));
        Bench.withdrawn(x, 0, 4, 100);
        CHECK.same("it jams once", 100, x.taken(4));
        x.jam(0, 1);
        Bench.withdrawn(x, 1, 5, 100);
        CHECK.same("another MACHINE's does not", 100, x.taken(5));
    }

    private static void jamWaitsForADispense() {
        CHECK.part("promise 9, no DISPENSE");
        CashLink x = new CashLink();
        x.jam(0, 1);
        Bench.withdrawn(x, 0, 1, 600);
        int k = Bench.answered(x, 0, 1, 100);
        x.power(0, 0, 16);
        CHECK.powerFails("0210", () -> x.deliver(k));
        x.on(0);
        Bench.withdrawn(x, 0, 1, 100);
        CHECK.same("the first DISPENSE jams", 50, x.taken(1));
        x.jam(0, 0);
        x.jam(0, 40);
        Bench.withdrawn(x, 0, 2, 300);
        CHECK.same("the last word counts", 300, x.taken(2));
    }

    private static void load() {
        CHECK.part("promise 10");
        CashLink x = new CashLink();
        CHECK.same("1", 31, x.load(0, 0, 1));
        CHECK.same("100", 130, x.load(0, 3, 100));
        CHECK.same("told", 130, x.told(0, 7));
        CHECK.same("another MACHINE", 30, x.told(1, 7));
        CHECK.illegalArgument("MACHINE -1", () -> x.load(-1, 0, 1));
        CHECK.illegalArgument("MACHINE 4", () -> x.load(4, 0, 1));
        CHECK.illegalArgument("CASSETTE -1", () -> x.load(0, -1, 1));
        CHECK.illegalArgument("CASSETTE 4", () -> x.load(0, 4, 1));
        CHECK.illegalArgument("0 notes", () -> x.load(0, 0, 0));
        CHECK.illegalArgument("101 notes", () -> x.load(0, 0, 101));
        x.load(0, 3, 100);
        x.load(0, 3, 100);
        x.load(0, 3, 100);
        CHECK.illegalState("501", () -> x.load(0, 3, 71));
        CHECK.same("500", 500, x.load(0, 3, 70));
        CHECK.illegalState("one more", () -> x.load(0, 3, 1));
        CHECK.illegalArgument("other numbers are looked at first", () -> x.load(0, 3, 101));
        CHECK.same("still 500", 500, x.told(0, 7));
        x.power(0, 0, 0);
        Bench.ready(x, 0, 0);
        CHECK.powerFails("ask", () -> x.ask(0, 10));
        CHECK.same("also when it is OFF", 32, x.load(0, 0, 1));
    }

    private static void told() {
        CHECK.part("promise 13");
        CashLink x = new CashLink();
        CHECK.illegalArgument("MACHINE -1", () -> x.told(-1, 0));
        CHECK.illegalArgument("MACHINE 4", () -> x.told(4, 0));
        CHECK.illegalArgument("what -1", () -> x.told(0, -1));
        CHECK.illegalArgument("what 11", () -> x.told(0, 11));
        x.card(0, 1);
        CHECK.same("a CARD", 2, x.told(0, 0));
        x.pin(0, Bench.pinOf(1));
        CHECK.same("READY", 3, x.told(0, 0));
        x.ask(0, 85);
        CHECK.same("WAITS", 4, x.told(0, 0));
        CHECK.same("TRACE of the one that it WAITS for", 1, x.told(0, 1));
        x.deliver(Bench.passed(x, 0));
        Bench.withdrawn(x, 0, 2, 95);
        x.jam(0, 1);
        Bench.withdrawn(x, 0, 3, 60);
        int[] due = {1, 3, 1, 10, 28, 29, 27, 27, 3, 50, 230};
        expect(x, due);
        x.power(0, 0, 7);
        CHECK.powerFails("0430", () -> x.deliver(Bench.passed(x, x.count(0) - 1)));
        due[0] = 0;
        due[1] = -1;
        due[2] = -1;
        expect(x, due);
        x.on(0);
        due[0] = 1;
        due[1] = 3;
        due[2] = 1;
        expect(x, due);
    }

    private static void expect(CashLink x, int[] due) {
        for (int what = 0; what < due.length; what++) {
            CHECK.same("told(0, " + what + ")", due[what], x.told(0, what));
        }
    }

    private static void mix() {
        CHECK.part("promise 17");
        CashLink x = new CashLink();
        CHECK.illegalArgument("MACHINE -1", () -> x.mix(-1, 10, 0));
        CHECK.illegalArgument("MACHINE 4", () -> x.mix(4, 10, 0));
        CHECK.illegalArgument("CASSETTE -1", () -> x.mix(0, 10, -1));
        CHECK.illegalArgument("CASSETTE 4", () -> x.mix(0, 10, 4));
        CHECK.illegalArgument("-1", () -> x.mix(0, -1, 0));
        CHECK.illegalArgument("1001", () -> x.mix(0, 1001, 0));
        for (int c = 0; c < 4; c++) {
            CHECK.same("the MIX of 0", 0, x.mix(0, 0, c));
            CHECK.same("no MIX of 3", -1, x.mix(0, 3, c));
            CHECK.same("1000", c == 3 ? 20 : 0, x.mix(0, 1000, c));
            CHECK.same("85 is one of each", 1, x.mix(0, 85, c));
        }
        CHECK.same("185", 3, x.mix(0, 185, 3));
    }

    private static void mostNotes() {
        CHECK.part("promise 17, at most 40 notes");
        CashLink x = new CashLink();
        for (int a = 0; a < 30; a++) {
            Bench.withdrawn(x, 0, a, 50);
            Bench.withdrawn(x, 0, a, 20);
        }
        x.load(0, 1, 100);
        CHECK.same("40 notes of 10", 40, x.mix(0, 400, 1));
        CHECK.same("40 and one of 5", -1, x.mix(0, 405, 1));
        CHECK.same("41", -1, x.mix(0, 410, 1));
        CHECK.same("39 and one of 5", 39, x.mix(0, 395, 1));
        Bench.ready(x, 0, 100);
        CHECK.unsupported("ask(0, 405)", () -> x.ask(0, 405));
        x.ask(0, 395);
        x.jam(0, 40);
        x.deliver(Bench.passed(x, x.count(0) - 1));
        CHECK.same("all 40 come out", 395, x.taken(100));
    }

    private static void mixAsItIsThen() {
        CHECK.part("promise 17, notes run out");
        CashLink x = new CashLink();
        for (int a = 0; a < 30; a++) {
            Bench.withdrawn(x, 0, a, 10);
        }
        // Without notes of 10: 60 is 50 + 5 + 5 or 20 + 20 + 20, three notes both; the most of CASSETTE 3 wins.
        CHECK.same("60 has one 50", 1, x.mix(0, 60, 3));
        CHECK.same("60 has two 5", 2, x.mix(0, 60, 0));
        for (int a = 30; a < 59; a++) {
            Bench.withdrawn(x, 0, a, 5);
        }
        CHECK.same("with one 5 left 60 has no 50", 0, x.mix(0, 60, 3));
        CHECK.same("60 has three 20", 3, x.mix(0, 60, 2));
        CHECK.same("80 has four 20", 4, x.mix(0, 80, 2));
        CHECK.same("no MIX of 10", -1, x.mix(0, 10, 1));
        CHECK.same("at first another MACHINE", 1, x.mix(1, 60, 1));
        int k = Bench.answered(x, 0, 100, 60);
        x.load(0, 1, 5);
        x.deliver(k);
        CHECK.same("RECORD 2 has the MIX as it is now", 29, x.told(0, 7));
        CHECK.same("one 10 came out", 4, x.told(0, 5));
        CHECK.same("no 20 came out", 30, x.told(0, 6));
    }
}
