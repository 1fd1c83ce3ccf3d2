/** Term 1 and promises 9, 10 and 17, sentence by sentence where they name an edge: accounts, notes, MIX, DISPENSE. */
public final class MoneyEdgesTest {
    private static final Check CHECK = new Check();

    public static void main(String[] args) {
        accounts();
        pins();
        thirtyNotesAtFirst();
        atMost500();
        notesThatAreInIt();
        atMost40Together();
        fewestNotes();
        mostOfCassette3();
        noMix();
        mixOfNothing();
        sameTraceAgain();
        order();
        jamIsForgotten();
        jamWithoutMoreNotes();
        jamOfNothing();
        jamAtTheLastNote();
        noJam();
        jamWaits();
        itRemembers();
        load();
        CHECK.end();
    }

    private static void accounts() {
        CHECK.sentence("Term 1", "ACCOUNTS 0 to 199 have a BALANCE, 500 at first");
        CashLink x = new CashLink();
        for (int a : new int[] {0, 199}) {
            CHECK.same("balance at first", 500, x.balance(a));
            Bench.withdrawn(x, 1, a, 505);
            CHECK.same("505 is too much", 500, x.balance(a));
            Bench.withdrawn(x, 1, a, 500);
            CHECK.same("500 can be had", 0, x.balance(a));
            CHECK.same("and is taken", 500, x.taken(a));
        }
    }

    private static void pins() {
        CHECK.sentence("Term 1", "PIN of ACCOUNT a is 1000 + 37 a");
        for (int a = 0; a < 200; a++) {
            CashLink x = new CashLink();
            x.card(2, a);
            CHECK.holds("one below, of " + a, !x.pin(2, 999 + 37 * a));
            CHECK.holds("one above, of " + a, !x.pin(2, 1001 + 37 * a));
            CHECK.holds("the PIN of " + a, x.pin(2, 1000 + 37 * a));
        }
    }

    private static void thirtyNotesAtFirst() {
        CHECK.sentence("Term 1", "30 in each at first");
        String[] without = {"-1 -1 -1 -1", "0 0 0 2", "0 0 2 0", "0 2 1 0"};
        for (int c = 0; c < 4; c++) {
            CashLink x = new CashLink();
            Bench.drainedTo(x, c, 1);
            CHECK.same("29 came out", 29 * Bench.WORTH[c], x.told(0, 10));
            CHECK.same("a MIX with the last", 1, x.mix(0, Bench.WORTH[c], c));
            Bench.drainedTo(x, c, 0);
            CHECK.same("30 came out", 30 * Bench.WORTH[c], x.told(0, 10));
            CHECK.sameText("the MIX without it", without[c], Bench.mix(x, Bench.WORTH[c]));
        }
    }

    private static void atMost500() {
        CHECK.sentence("Term 1", "at most 500");
        for (int c = 0; c < 4; c++) {
            int cassette = c;
            CashLink x = new CashLink();
            for (int i = 0; i < 4; i++) {
                x.load(0, c, 100);
            }
            CHECK.same("499", 499, x.load(0, c, 69));
            CHECK.illegalState("two more", () -> x.load(0, cassette, 2));
            CHECK.same("one more", 500, x.load(0, c, 1));
            CHECK.illegalState("one too many", () -> x.load(0, cassette, 1));
            CHECK.illegalState("100 too many", () -> x.load(0, cassette, 100));
            CHECK.same("still 500", 500, x.told(0, 4 + c));
            Bench.withdrawn(x, 0, 1, Bench.WORTH[c]);
            CHECK.same("one came out", 500, x.load(0, c, 1));
        }
    }

    private static void notesThatAreInIt() {
        CHECK.sentence("Term 1", "of those that are in it");
        CashLink x = new CashLink();
        Bench.drainedTo(x, 3, 2);
        CHECK.sameText("100 with two 50", "2 0 0 0", Bench.mix(x, 100));
        Bench.drainedTo(x, 3, 1);
        CHECK.sameText("100 with one 50", "1 2 1 0", Bench.mix(x, 100));
        Bench.drainedTo(x, 3, 0);
        CHECK.sameText("100 with no 50", "0 5 0 0", Bench.mix(x, 100));
        x.load(0, 3, 1);
        CHECK.sameText("100 with one 50 again", "1 2 1 0", Bench.mix(x, 100));
        CashLink y = new CashLink();
        Bench.drainedDownTo(y, 2);
        CHECK.sameText("300 with thirty 10", "0 0 30 0", Bench.mix(y, 300));
        CHECK.sameText("305 with thirty 10", "0 0 30 1", Bench.mix(y, 305));
        CHECK.sameText("310 with thirty 10", "0 0 30 2", Bench.mix(y, 310));
        CHECK.sameText("95 with 10 and 5", "0 0 9 1", Bench.mix(y, 95));
    }

    private static void atMost40Together() {
        CHECK.sentence("Term 1", "at most 40 together");
        CashLink x = new CashLink();
        Bench.drainedDownTo(x, 1);
        x.load(0, 0, 100);
        CHECK.sameText("40 notes", "0 0 0 40", Bench.mix(x, 200));
        CHECK.sameText("41 notes", "-1 -1 -1 -1", Bench.mix(x, 205));
        Bench.ready(x, 0, 1);
        CHECK.unsupported("ask for 41 notes", () -> x.ask(0, 205));
        x.ask(0, 200);
        x.deliver(Bench.passed(x, Bench.last(x)));
        CHECK.same("40 notes came out", 200, x.taken(1));
        x.load(0, 1, 1);
        CHECK.sameText("40 of two CASSETTES", "0 0 1 39", Bench.mix(x, 205));
        CHECK.sameText("41 of two CASSETTES", "-1 -1 -1 -1", Bench.mix(x, 210));
    }

    private static void fewestNotes() {
        CHECK.sentence("Term 1", "of all such the fewest notes");
        CashLink x = new CashLink();
        CHECK.sameText("10", "0 0 1 0", Bench.mix(x, 10));
        CHECK.sameText("60", "1 0 1 0", Bench.mix(x, 60));
        CHECK.sameText("80", "1 1 1 0", Bench.mix(x, 80));
        CHECK.sameText("995", "19 2 0 1", Bench.mix(x, 995));
    }

    /** More of CASSETTE 2 or 1 with as many notes, and as many of 3, is never one of the fewest. */
    private static void mostOfCassette3() {
        CHECK.sentence("Term 1", "of these the most of CASSETTE 3");
        CashLink x = new CashLink();
        Bench.drainedTo(x, 1, 0);
        CHECK.sameText("60, not three 20", "1 0 0 2", Bench.mix(x, 60));
        CHECK.sameText("80, not four 20", "1 1 0 2", Bench.mix(x, 80));
        Bench.drainedTo(x, 0, 1);
        CHECK.sameText("60 with one 5", "0 3 0 0", Bench.mix(x, 60));
        CHECK.sameText("65 with one 5", "0 3 0 1", Bench.mix(x, 65));
    }

    private static void noMix() {
        CHECK.sentence("Term 1", "none if there is none");
        CashLink x = new CashLink();
        for (int v : new int[] {1, 4, 6, 9, 999}) {
            CHECK.sameText("no MIX of " + v, "-1 -1 -1 -1", Bench.mix(x, v));
        }
        Bench.drainedTo(x, 0, 0);
        CHECK.sameText("5 without notes of 5", "-1 -1 -1 -1", Bench.mix(x, 5));
        CHECK.sameText("995 without notes of 5", "-1 -1 -1 -1", Bench.mix(x, 995));
        CHECK.sameText("1000 without notes of 5", "20 0 0 0", Bench.mix(x, 1000));
        CashLink y = new CashLink();
        Bench.drainedTo(y, 1, 0);
        Bench.drainedTo(y, 0, 0);
        for (int v : new int[] {5, 10, 30}) {
            CHECK.sameText("with 20 and 50 no MIX of " + v, "-1 -1 -1 -1", Bench.mix(y, v));
        }
        CHECK.sameText("but of 110", "1 3 0 0", Bench.mix(y, 110));
    }

    private static void mixOfNothing() {
        CHECK.sentence("Promise 17", "The MIX of 0 is no notes: 0");
        CashLink x = new CashLink();
        CHECK.sameText("at first", "0 0 0 0", Bench.mix(x, 0));
        Bench.drainedDownTo(x, 0);
        CHECK.sameText("with empty CASSETTES", "0 0 0 0", Bench.mix(x, 0));
        CHECK.sameText("but none of 5", "-1 -1 -1 -1", Bench.mix(x, 5));
    }

    private static void sameTraceAgain() {
        CHECK.sentence("Term 1", "if the DISPENSER did that TRACE last, nothing");
        CashLink x = new CashLink();
        int k = Bench.answered(x, 0, 7, 85);
        x.power(0, 1, 15);
        CHECK.powerFails("at RECORD 3", () -> x.deliver(k));
        x.on(0);
        for (int i = 0; i < 3; i++) {
            CHECK.same("0210 again", 0, x.deliver(k));
            x.on(0);
        }
        CHECK.same("taken once", 85, x.taken(7));
        CHECK.same("one note of 50", 29, x.told(0, 7));
        CHECK.same("one note of 5", 29, x.told(0, 4));
        CHECK.same("RECORDS 1, 2 and 3", 3, x.told(0, 3));
    }

    private static void order() {
        CHECK.sentence("Term 1", "notes come out, those of CASSETTE 3 first, then 2, 1, 0");
        int[] due = {0, 50, 70, 80, 85, 85};
        for (int j = 0; j < due.length; j++) {
            CashLink x = new CashLink();
            x.jam(0, j);
            Bench.withdrawn(x, 0, 7, 85);
            CHECK.same("after " + j + " notes", due[j], x.taken(7));
            for (int c = 0; c < 4; c++) {
                CHECK.same("notes in CASSETTE " + c, j >= 4 - c ? 29 : 30, x.told(0, 4 + c));
            }
        }
    }

    private static void jamIsForgotten() {
        CHECK.sentence("Term 1", "fewer, if it was said to jam after so many of them; that is forgotten then");
        CashLink x = new CashLink();
        x.jam(0, 1);
        Bench.withdrawn(x, 0, 7, 85);
        Bench.withdrawn(x, 0, 8, 85);
        CHECK.same("fewer", 50, x.taken(7));
        CHECK.same("forgotten", 85, x.taken(8));
    }

    private static void jamWithoutMoreNotes() {
        CHECK.sentence("Term 1", "also if that has no more notes: then all come out");
        for (int j = 4; j <= 5; j++) {
            CashLink x = new CashLink();
            x.jam(0, j);
            Bench.withdrawn(x, 0, 7, 85);
            CHECK.same("all four come out", 85, x.taken(7));
            CHECK.same("no VOID", 0, x.told(0, 2));
            Bench.withdrawn(x, 0, 8, 450);
            CHECK.same("over with that", 450, x.taken(8));
        }
    }

    private static void jamOfNothing() {
        CHECK.sentence("Promise 9", "jams after j (0 to 40) notes");
        CashLink x = new CashLink();
        Bench.withdrawn(x, 0, 6, 20);
        x.jam(0, 0);
        Bench.withdrawn(x, 0, 7, 85);
        CHECK.same("nothing is taken", 0, x.taken(7));
        CHECK.same("a VOID", 1, x.told(0, 2));
        CHECK.same("it did that TRACE all the same", 2, x.told(0, 8));
        CHECK.same("no value", 0, x.told(0, 9));
        CHECK.same("the value of all", 20, x.told(0, 10));
        CHECK.same("0420 of all", 85, Bench.amountOf(x, Bench.last(x)));
        Bench.withdrawn(x, 0, 8, 85);
        CHECK.same("forgotten", 85, x.taken(8));
    }

    private static void jamAtTheLastNote() {
        CHECK.sentence("Promise 9", "jams after j (0 to 40) notes");
        for (int j = 39; j <= 41; j++) {
            CashLink x = new CashLink();
            Bench.drainedDownTo(x, 1);
            x.load(0, 0, 100);
            x.jam(0, j);
            Bench.withdrawn(x, 0, 7, 200);
            CHECK.same("after " + j + " of 40 notes", j == 39 ? 195 : 200, x.taken(7));
            CHECK.same("VOIDS", j == 39 ? 1 : 0, x.told(0, 2));
            CHECK.same("notes left", j == 39 ? 91 : 90, x.told(0, 4));
        }
    }

    private static void noJam() {
        CHECK.sentence("Promise 9", "41: none does");
        CashLink x = new CashLink();
        x.jam(0, 0);
        x.jam(0, 41);
        Bench.withdrawn(x, 0, 7, 85);
        CHECK.same("all come out", 85, x.taken(7));
    }

    private static void jamWaits() {
        CHECK.sentence("Promise 9", "The next DISPENSE of MACHINE m (that does something)");
        CashLink x = new CashLink();
        x.jam(0, 2);
        Bench.withdrawn(x, 1, 7, 85);
        CHECK.same("not of another MACHINE", 85, x.taken(7));
        Bench.withdrawn(x, 0, 7, 600);
        Bench.asked(x, 0, 8, 85);
        x.cancel(0);
        x.on(0);
        Bench.withdrawn(x, 0, 9, 85);
        CHECK.same("not before notes would come out", 70, x.taken(9));
    }

    private static void itRemembers() {
        CHECK.sentence("Term 1", "it remembers when its MACHINE has no power");
        CashLink x = new CashLink();
        Bench.withdrawn(x, 0, 6, 100);
        int k = Bench.answered(x, 0, 7, 85);
        x.jam(0, 3);
        x.power(0, 1, 0);
        CHECK.powerFails("at RECORD 3", () -> x.deliver(k));
        for (int i = 0; i < 2; i++) {
            CHECK.same("TRACE", 2, x.told(0, 8));
            CHECK.same("value", 80, x.told(0, 9));
            CHECK.same("value of all", 180, x.told(0, 10));
            x.on(0);
        }
        CHECK.same("a VOID", 1, x.told(0, 2));
        CHECK.same("0420 of the rest", 5, Bench.amountOf(x, Bench.last(x)));
    }

    private static void load() {
        CHECK.sentence("Promise 10", "n (1 to 100) notes come into CASSETTE c of MACHINE m: how many there are");
        CashLink x = new CashLink();
        CHECK.illegalArgument("0", () -> x.load(3, 1, 0));
        CHECK.same("1", 31, x.load(3, 1, 1));
        CHECK.same("100", 131, x.load(3, 1, 100));
        CHECK.illegalArgument("101", () -> x.load(3, 1, 101));
        int[] due = {30, 131, 30, 30};
        for (int c = 0; c < 4; c++) {
            CHECK.same("CASSETTE " + c, due[c], x.told(3, 4 + c));
            CHECK.same("of another MACHINE", 30, x.told(2, 4 + c));
        }
    }
}
