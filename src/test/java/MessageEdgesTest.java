/** Term 3 and promises 8 and 16, sentence by sentence where they name an edge: MESSAGES, deliver and byteAt. */
public final class MessageEdgesTest {
    private static final Check CHECK = new Check();
    private static final int MOST = 3000;

    public static void main(String[] args) {
        numberedFrom0();
        askAtTheLimit();
        settleAtTheLimit();
        againAtTheLimit();
        againAcrossTheLimit();
        deliverToTheBankAtTheLimit();
        deliverToAMachineAtTheLimit();
        cancelAtTheLimit();
        onAtTheLimit();
        anyNumberOfTimes();
        lengths();
        bitmaps();
        accounts();
        amounts();
        traces();
        answers();
        machines();
        deliverOfNone();
        deliverAndPower();
        deliverWithoutRecord();
        behindTheEnd();
        belowTheStart();
        CHECK.end();
    }

    private static void numberedFrom0() {
        CHECK.sentence("Term 3", "MESSAGES are numbered from 0 as they are sent");
        CashLink x = new CashLink();
        CHECK.same("none", 0, x.count(0));
        CHECK.outOfBounds("no MESSAGE 0", () -> x.byteAt(0, 0));
        x.jam(0, 0);
        Bench.withdrawn(x, 0, 7, 100);
        x.deliver(Bench.passed(x, 2));
        x.settle(0);
        x.deliver(4);
        int[] due = {200, 210, 420, 430, 500, 510};
        for (int k = 0; k < due.length; k++) {
            CHECK.same("TYPE of MESSAGE " + k, due[k], Bench.typeOf(x, k));
        }
        CHECK.same("all", due.length, x.count(0));
    }

    private static void askAtTheLimit() {
        CHECK.sentence("Term 3, ask", "at most 3000 (then nothing is sent, all else goes on)");
        CashLink last = Bench.filled(MOST - 1);
        last.ask(1, 10);
        CHECK.same("the last is sent", MOST, last.count(0));
        CHECK.same("it is 0200", 200, Bench.typeOf(last, MOST - 1));
        CashLink x = Bench.filled(MOST);
        CHECK.same("the TRACE, as if it were sent", 1, x.ask(1, 10));
        CHECK.same("nothing is sent", MOST, x.count(0));
        CHECK.same("it WAITS", 4, x.told(1, 0));
        CHECK.same("RECORD 1", 1, x.told(1, 3));
    }

    private static void settleAtTheLimit() {
        CHECK.sentence("Term 3, settle", "at most 3000 (then nothing is sent, all else goes on)");
        CashLink x = Bench.filled(MOST - 1);
        x.deliver(1);
        CHECK.same("what came out", 100, x.settle(2));
        CHECK.same("the last is sent", MOST, x.count(0));
        CHECK.same("as if it were sent", 100, x.settle(2));
        CHECK.same("nothing is sent", MOST, x.count(0));
    }

    private static void againAtTheLimit() {
        CHECK.sentence("Term 3, again", "at most 3000 (then nothing is sent, all else goes on)");
        CashLink x = Bench.filled(MOST);
        CHECK.same("as if they were sent", Bench.VOIDS, x.again(0));
        CHECK.same("nothing is sent", MOST, x.count(0));
        CHECK.same("they are VOIDS still", Bench.VOIDS, x.told(0, 2));
    }

    private static void againAcrossTheLimit() {
        CHECK.sentence("Term 3, a part of again", "at most 3000 (then nothing is sent, all else goes on)");
        CashLink x = Bench.filled(MOST - 2);
        CHECK.same("as if all were sent", Bench.VOIDS, x.again(0));
        CHECK.same("two are sent", MOST, x.count(0));
        CHECK.same("the first of the VOIDS", 1, Bench.traceOf(x, MOST - 2));
        CHECK.same("the second of the VOIDS", 2, Bench.traceOf(x, MOST - 1));
    }

    private static void deliverToTheBankAtTheLimit() {
        CHECK.sentence("Term 3, by the BANK", "deliver tells how many were");
        CashLink x = Bench.filled(MOST - 1);
        CHECK.same("the last is sent", 1, x.deliver(0));
        CHECK.same("0210 is not sent", 0, x.deliver(0));
        CHECK.same("0510 is not sent", 0, x.deliver(2));
        CHECK.same("0210 of a new one is not sent", 0, x.deliver(3));
        CHECK.same("but RECORD 6 is written", 2, x.count(2));
        CHECK.same("and the BALANCE falls", 490, x.balance(0));
        CHECK.same("0430 is not sent", 0, x.deliver(4));
        CHECK.same("but RECORD 7 is written", 3, x.count(2));
        CHECK.same("and it is given back", 500, x.balance(0));
        CHECK.same("no more than 3000", MOST, x.count(0));
        CHECK.same("no 0510 of another answer", 0, x.count(6));
    }

    private static void deliverToAMachineAtTheLimit() {
        CHECK.sentence("Term 3, by a MACHINE", "deliver tells how many were");
        for (int room = 0; room <= 1; room++) {
            CashLink x = Bench.filled(MOST - room);
            x.jam(2, 1);
            CHECK.same("0420 of the rest", room, x.deliver(1));
            CHECK.same("MESSAGES", MOST, x.count(0));
            CHECK.same("notes come out", 50, x.taken(62));
            CHECK.same("RECORDS 1 to 4", 4, x.told(2, 3));
            CHECK.same("a VOID", 1, x.told(2, 2));
        }
    }

    private static void cancelAtTheLimit() {
        CHECK.sentence("Term 3, cancel", "then nothing is sent, all else goes on");
        CashLink x = Bench.filled(MOST);
        x.cancel(2);
        CHECK.same("EMPTY", 1, x.told(2, 0));
        CHECK.same("RECORDS 1 and 4", 2, x.told(2, 3));
        CHECK.same("a VOID", 1, x.told(2, 2));
        CHECK.same("nothing is sent", MOST, x.count(0));
    }

    private static void onAtTheLimit() {
        CHECK.sentence("Term 3, on", "then nothing is sent, all else goes on");
        CashLink x = Bench.filled(MOST);
        CHECK.same("RECORD 1", 1, x.on(2));
        CHECK.same("EMPTY", 1, x.told(2, 0));
        CHECK.same("RECORDS 1 and 4", 2, x.told(2, 3));
        CHECK.same("a VOID", 1, x.told(2, 2));
        CHECK.same("nothing is sent", MOST, x.count(0));
    }

    private static void anyNumberOfTimes() {
        CHECK.sentence("Term 3", "each may come any number of times, to the BANK or its MACHINE");
        CashLink x = new CashLink();
        Bench.asked(x, 0, 7, 100);
        Bench.asked(x, 1, 8, 100);
        for (int i = 0; i < 5; i++) {
            CHECK.same("0200", 1, x.deliver(0));
            CHECK.sameText("the same 0210", Bench.text(x, 2), Bench.text(x, Bench.last(x)));
        }
        CHECK.same("the BALANCE falls once", 400, x.balance(7));
        for (int k = 2; k <= 6; k++) {
            CHECK.same("0210", 0, x.deliver(k));
            CHECK.same("0210 once more", 0, x.deliver(2));
        }
        CHECK.same("taken once", 100, x.taken(7));
        CHECK.same("RECORDS 1, 2 and 3", 3, x.told(0, 3));
        CHECK.same("the other MACHINE WAITS", 4, x.told(1, 0));
        CHECK.same("an old 0200", 1, x.deliver(0));
    }

    /** One MESSAGE of each TYPE, by MACHINE 2: 0200, 0210, 0420, 0430, 0500, 0510. */
    private static CashLink oneOfEach() {
        CashLink x = new CashLink();
        x.jam(2, 0);
        Bench.withdrawn(x, 2, 199, 500);
        x.deliver(Bench.passed(x, 2));
        x.settle(2);
        x.deliver(4);
        return x;
    }

    private static void lengths() {
        CHECK.sentence("Term 3", "In bytes: four digits of the TYPE; a bitmap of 8 bytes");
        CashLink x = oneOfEach();
        int[] due = {43, 28, 38, 26, 38, 28};
        for (int k = 0; k < due.length; k++) {
            CHECK.holds("the last byte", x.byteAt(k, due[k] - 1) >= '0');
            CHECK.same("no byte behind it", -1, x.byteAt(k, due[k]));
        }
    }

    private static void bitmaps() {
        CHECK.sentence("Term 3", "field 1 is the highest bit of the first");
        CashLink x = oneOfEach();
        int[][] fields = {{2, 4, 11, 41}, {11, 39, 41}, {4, 11, 41}, {11, 41}, {4, 11, 41}, {11, 39, 41}};
        for (int k = 0; k < fields.length; k++) {
            long due = 0;
            for (int field : fields[k]) {
                due |= 1L << (64 - field);
            }
            CHECK.sameText("bitmap of " + k, String.format("%016x", due), Bench.text(x, k).substring(4, 20));
        }
    }

    private static void accounts() {
        CHECK.sentence("Term 3", "2 ACCOUNT (two digits that tell how many digits it has, 03, and these)");
        int[] accounts = {0, 9, 10, 99, 100, 199};
        String[] due = {"03000", "03009", "03010", "03099", "03100", "03199"};
        for (int i = 0; i < accounts.length; i++) {
            CashLink x = new CashLink();
            Bench.asked(x, 0, accounts[i], 5);
            CHECK.sameText("field 2", due[i], Bench.text(x, 0).substring(20, 25));
        }
    }

    private static void amounts() {
        CHECK.sentence("Term 3", "4 amount (12 digits)");
        int[] amounts = {5, 10, 100, 995, 1000};
        String[] due = {"000000000005", "000000000010", "000000000100", "000000000995", "000000001000"};
        for (int i = 0; i < amounts.length; i++) {
            CashLink x = new CashLink();
            Bench.asked(x, 0, 7, amounts[i]);
            x.cancel(0);
            CHECK.sameText("of 0200", due[i], Bench.text(x, 0).substring(25, 37));
            CHECK.sameText("of 0420", due[i], Bench.text(x, 1).substring(20, 32));
        }
        CashLink x = new CashLink();
        CHECK.same("nothing came out", 0, x.settle(0));
        CHECK.sameText("of 0500", "000000000000", Bench.text(x, 0).substring(20, 32));
        Bench.drainedDownTo(x, 0);
        CHECK.same("all came out", 2550, x.settle(0));
        CHECK.sameText("of 0500", "000000002550", Bench.text(x, Bench.last(x)).substring(20, 32));
    }

    private static void traces() {
        CHECK.sentence("Term 3", "11 TRACE (6 digits)");
        CashLink x = new CashLink();
        x.settle(0);
        CHECK.sameText("0 without a withdrawal", "000000", Bench.text(x, 0).substring(32, 38));
        for (int trace = 1; trace <= 100; trace++) {
            int k = Bench.asked(x, 0, 7, 5);
            x.cancel(0);
            String due = String.format("%06d", trace);
            CHECK.sameText("of 0200", due, Bench.text(x, k).substring(37, 43));
            CHECK.sameText("of 0420", due, Bench.text(x, k + 1).substring(32, 38));
        }
        x.deliver(Bench.passed(x, x.count(0) - 2));
        CHECK.sameText("of 0210", "000100", Bench.text(x, Bench.last(x)).substring(20, 26));
        x.deliver(200);
        CHECK.sameText("of 0430", "000100", Bench.text(x, Bench.last(x)).substring(20, 26));
    }

    private static void answers() {
        CHECK.sentence("Term 3", "39 answer (2 digits)");
        CashLink x = new CashLink();
        int granted = Bench.answered(x, 0, 7, 500);
        int tooLittle = Bench.answered(x, 1, 7, 5);
        x.cancel(1);
        Bench.asked(x, 2, 8, 5);
        x.cancel(2);
        x.deliver(Bench.last(x));
        int reversed = Bench.passed(x, 5);
        x.settle(3);
        int totals = Bench.passed(x, Bench.last(x));
        CHECK.sameText("0", "00", Bench.text(x, granted).substring(26, 28));
        CHECK.sameText("1", "01", Bench.text(x, tooLittle).substring(26, 28));
        CHECK.sameText("3", "03", Bench.text(x, reversed).substring(26, 28));
        CHECK.sameText("0 of 0510", "00", Bench.text(x, totals).substring(26, 28));
    }

    private static void machines() {
        CHECK.sentence("Term 3", "41 MACHINE (8 digits, 0 before)");
        for (int m = 0; m < 4; m++) {
            CashLink x = new CashLink();
            Bench.answered(x, m, 7, 5);
            x.cancel(m);
            x.deliver(Bench.passed(x, 2));
            x.settle(m);
            x.deliver(Bench.last(x));
            for (int k = 0; k < 6; k++) {
                String text = Bench.text(x, k);
                CHECK.sameText("MESSAGE " + k, "0000000" + m, text.substring(text.length() - 8));
            }
        }
    }

    private static void deliverOfNone() {
        CHECK.sentence("Promise 8", "IndexOutOfBoundsException if there is no MESSAGE k");
        CashLink x = new CashLink();
        CHECK.outOfBounds("none was sent", () -> x.deliver(0));
        Bench.asked(x, 0, 7, 5);
        for (int k : new int[] {Integer.MIN_VALUE, -1, 1, MOST, Integer.MAX_VALUE}) {
            CHECK.outOfBounds("MESSAGE " + k, () -> x.deliver(k));
        }
        CHECK.same("the first", 1, x.deliver(0));
        CHECK.same("the newest", 0, x.deliver(1));
        CashLink full = Bench.filled(MOST);
        CHECK.outOfBounds("MESSAGE 3000", () -> full.deliver(MOST));
        CHECK.same("MESSAGE 2999 can come", 0, full.deliver(MOST - 1));
    }

    private static void deliverAndPower() {
        CHECK.sentence("Promise 8", "ArithmeticException if power fails (of the BANK, or of its MACHINE)");
        Scene[] scenes = {Scene.MIX, Scene.CAME_OUT, Scene.REST, Scene.DECLINED, Scene.REVERSED, Scene.REQUEST,
            Scene.REVERSAL};
        for (Scene scene : scenes) {
            for (int b = 0; b <= 16; b++) {
                CashLink x = scene.aboutToFail(b);
                int k = Bench.last(x);
                CHECK.powerFails(scene.record, () -> x.deliver(k));
                CHECK.same("then it does nothing", 0, x.deliver(k));
            }
        }
    }

    private static void deliverWithoutRecord() {
        CHECK.sentence("Term 2", "Power may fail at a RECORD");
        CashLink x = new CashLink();
        x.power(0, 0, 0);
        x.power(Bench.BANK, 0, 0);
        x.settle(0);
        CHECK.same("0500", 1, x.deliver(0));
        CHECK.same("0510", 0, x.deliver(1));
        CHECK.same("the BANK is ON", 1, x.count(1));
    }

    private static void behindTheEnd() {
        CHECK.sentence("Promise 16", "-1 behind its end");
        CashLink x = oneOfEach();
        for (int k = 0; k < 6; k++) {
            int length = 0;
            while (length < 100 && x.byteAt(k, length) != -1) {
                length++;
            }
            CHECK.holds("it has an end", length < 100);
            for (int i : new int[] {length, length + 1, 1000, Integer.MAX_VALUE}) {
                CHECK.same("byte " + i, -1, x.byteAt(k, i));
            }
        }
    }

    private static void belowTheStart() {
        CHECK.sentence("Promise 16", "IndexOutOfBoundsException if there is no MESSAGE k, or i is below 0");
        CashLink x = oneOfEach();
        CHECK.same("byte 0", '0', x.byteAt(0, 0));
        CHECK.outOfBounds("byte -1", () -> x.byteAt(0, -1));
        CHECK.outOfBounds("far below", () -> x.byteAt(5, Integer.MIN_VALUE));
        for (int k : new int[] {Integer.MIN_VALUE, -1, 6, MOST, Integer.MAX_VALUE}) {
            CHECK.outOfBounds("MESSAGE " + k, () -> x.byteAt(k, 0));
            CHECK.outOfBounds("behind the end of MESSAGE " + k, () -> x.byteAt(k, 100));
        }
    }
}
