/** All that can be asked of an object, as one text: two with the same text can't be told apart by asking. */
final class Snapshot {
    private Snapshot() {
    }

    static String of(CashLink x) {
        StringBuilder out = new StringBuilder();
        for (int m = 0; m < 4; m++) {
            out.append("\nMACHINE ").append(m).append(':');
            for (int what = 0; what <= 10; what++) {
                out.append(' ').append(x.told(m, what));
            }
        }
        out.append("\ncounts:");
        for (int what = 0; what <= 6; what++) {
            out.append(' ').append(x.count(what));
        }
        for (int a = 0; a < 200; a++) {
            if (x.balance(a) != 500 || x.taken(a) != 0) {
                out.append("\nACCOUNT ").append(a).append(": ").append(x.balance(a)).append(' ').append(x.taken(a));
            }
        }
        for (int k = 0; k < x.count(0); k++) {
            out.append("\nMESSAGE ").append(k).append(": ").append(Bench.text(x, k));
        }
        return out.toString();
    }
}
