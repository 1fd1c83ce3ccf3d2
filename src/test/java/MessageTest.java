/** Promise 16, with Term 3: the bytes of every TYPE of MESSAGE. */
public final class MessageTest {
    private static final Check CHECK = new Check();

    public static void main(String[] args) {
        CashLink x = new CashLink();
        CHECK.part("promise 16");
        CHECK.outOfBounds("no MESSAGE yet", () -> x.byteAt(0, 0));
        Bench.answered(x, 2, 199, 1000);
        x.cancel(2);
        x.deliver(2);
        x.deliver(3);
        x.settle(2);
        x.deliver(4);
        is(x, 0, "0200" + "5020000000800000" + "03199" + "000000001000" + "000001" + "00000002");
        is(x, 1, "0210" + "0020000002800000" + "000001" + "01" + "00000002");
        is(x, 2, "0420" + "1020000000800000" + "000000001000" + "000001" + "00000002");
        is(x, 3, "0430" + "0020000000800000" + "000001" + "00000002");
        is(x, 4, "0500" + "1020000000800000" + "000000000000" + "000001" + "00000002");
        is(x, 5, "0510" + "0020000002800000" + "000001" + "00" + "00000002");
        int[] length = {43, 28, 38, 26, 38, 28};
        for (int k = 0; k < length.length; k++) {
            CHECK.holds("last byte of " + k, x.byteAt(k, length[k] - 1) == '2');
            CHECK.same("behind the end of " + k, -1, x.byteAt(k, length[k]));
            CHECK.same("far behind the end of " + k, -1, x.byteAt(k, Integer.MAX_VALUE));
        }
        CHECK.outOfBounds("i -1", () -> x.byteAt(0, -1));
        CHECK.outOfBounds("k -1", () -> x.byteAt(-1, 0));
        CHECK.outOfBounds("no MESSAGE 6", () -> x.byteAt(6, 0));
        x.jam(3, 3);
        Bench.withdrawn(x, 3, 10, 385);
        for (int i = 0; i < 11; i++) {
            Bench.withdrawn(x, 3, 20 + i, 50);
        }
        is(x, 6, "0200" + "5020000000800000" + "03010" + "000000000385" + "000001" + "00000003");
        is(x, 8, "0420" + "1020000000800000" + "000000000235" + "000001" + "00000003");
        is(x, x.count(0) - 1, "0210" + "0020000002800000" + "000012" + "00" + "00000003");
        CHECK.end();
    }

    private static void is(CashLink x, int k, String due) {
        String got = Bench.text(x, k);
        CHECK.holds("MESSAGE " + k + ": due is " + due + ", but " + got, got.equals(due));
    }
}
