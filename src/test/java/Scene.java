/** A call in which a RECORD is written, after all that must come before it. */
enum Scene {
    ASK(0, 0, "1 in ask"),
    MIX(0, 0, "2 with 0210"),
    CAME_OUT(0, 1, "3 with 0210"),
    REST(0, 2, "4 with 0210"),
    LATE(0, 0, "4 in cancel"),
    DECLINED(0, 0, "5 with 0210"),
    REVERSED(0, 0, "5 with 0430"),
    ON_AFTER_1(0, 0, "4 in turning ON after 1"),
    ON_AFTER_2(0, 0, "3 in turning ON after 2"),
    ON_AFTER_2_REST(0, 1, "4 in turning ON after 2"),
    ON_AFTER_3(0, 0, "4 in turning ON after 3"),
    REQUEST(Bench.BANK, 0, "6 with 0200"),
    REVERSAL(Bench.BANK, 0, "7 with 0420");

    final int w;
    /** How many RECORDS of the same call come before it. */
    final int k;
    final String record;

    Scene(int w, int k, String record) {
        this.w = w;
        this.k = k;
        this.record = "RECORD " + record;
    }

    void prepare(CashLink x) {
        switch (this) {
            case ASK:
                Bench.ready(x, 0, 7);
                break;
            case LATE:
            case ON_AFTER_1:
            case REQUEST:
                Bench.asked(x, 0, 7, 100);
                break;
            case DECLINED:
                Bench.answered(x, 0, 7, 600);
                break;
            case REVERSED:
                Bench.answered(x, 0, 7, 100);
                x.cancel(0);
                Bench.passed(x, 2);
                break;
            case REVERSAL:
                Bench.answered(x, 0, 7, 100);
                x.cancel(0);
                break;
            case ON_AFTER_2:
            case ON_AFTER_2_REST:
                cutOff(x, 1);
                break;
            case ON_AFTER_3:
                cutOff(x, 2);
                break;
            default:
                x.jam(0, 1);
                Bench.answered(x, 0, 7, 100);
        }
    }

    /** A withdrawal that jams, and after so many whole RECORDS and one more power is gone. */
    private static void cutOff(CashLink x, int records) {
        x.jam(0, 1);
        x.power(0, records, 16);
        Bench.fails(() -> Bench.withdrawn(x, 0, 7, 100));
    }

    void play(CashLink x) {
        switch (this) {
            case ASK:
                x.ask(0, 100);
                break;
            case LATE:
                x.cancel(0);
                break;
            case ON_AFTER_1:
            case ON_AFTER_2:
            case ON_AFTER_2_REST:
            case ON_AFTER_3:
                x.on(0);
                break;
            default:
                x.deliver(Bench.last(x));
        }
    }

    int records(CashLink x) {
        return w == Bench.BANK ? x.count(2) : x.told(0, 3);
    }

    boolean isOn(CashLink x) {
        return w == Bench.BANK ? x.count(1) == 1 : x.told(0, 0) != 0;
    }

    /** An object in which power will fail at the RECORD, when the call is made. */
    CashLink aboutToFail(int bytes) {
        CashLink x = new CashLink();
        prepare(x);
        x.power(w, k, bytes);
        return x;
    }

    /** An object in which power failed at the RECORD. */
    CashLink failed(int bytes) {
        CashLink x = aboutToFail(bytes);
        Bench.fails(() -> play(x));
        return x;
    }
}
