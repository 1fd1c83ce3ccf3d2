import java.nio.ByteBuffer;
import java.nio.charset.StandardCharsets;
import java.util.ArrayList;
import java.util.LinkedHashMap;
import java.util.List;
import java.util.Map;

/**
 * The document once more, in another way: JOURNALS are rows of bytes that may end in a part of a RECORD, all that
 * is known is read from them at every call, and MESSAGES are kept and read as bytes. Slow, and only for tests.
 */
final class Oracle {
    private static final int[] WORTH = {5, 10, 20, 50};

    /** A JOURNAL as it lies on a disk. */
    private static final class Disk {
        final ByteBuffer bytes = ByteBuffer.allocate(16 * 5000);
        boolean on = true;
        int failAt = -1;
        int failBytes;

        int whole() {
            return bytes.position() / 16;
        }

        /** Kind, MACHINE, answer and a spare byte; TRACE; ACCOUNT or CASSETTES; amount. */
        void write(int kind, int machine, int answer, int trace, int account, int amount) {
            ByteBuffer one = ByteBuffer.allocate(16);
            one.put((byte) kind).put((byte) machine).put((byte) answer).put((byte) 0);
            one.putInt(trace).putInt(account).putInt(amount);
            boolean fails = failAt == 0;
            failAt = Math.max(-1, failAt - 1);
            bytes.put(one.array(), 0, fails ? failBytes : 16);
            if (fails) {
                on = false;
                throw new ArithmeticException();
            }
        }

        void start() {
            bytes.position(16 * whole());
            on = true;
        }

        int kind(int i) {
            return bytes.get(16 * i);
        }

        int machine(int i) {
            return bytes.get(16 * i + 1);
        }

        int answer(int i) {
            return bytes.get(16 * i + 2);
        }

        int trace(int i) {
            return bytes.getInt(16 * i + 4);
        }

        int account(int i) {
            return bytes.getInt(16 * i + 8);
        }

        int amount(int i) {
            return bytes.getInt(16 * i + 12);
        }

        int find(int kind, int machine, int trace) {
            for (int i = 0; i < whole(); i++) {
                if (kind(i) == kind && machine(i) == machine && trace(i) == trace) {
                    return i;
                }
            }
            return -1;
        }
    }

    private final Disk[] disks = {new Disk(), new Disk(), new Disk(), new Disk(), new Disk()};
    private final List<byte[]> messages = new ArrayList<>();
    private final int[] state = {1, 1, 1, 1};
    private final int[] holder = new int[4];
    private final int[] wrong = new int[4];
    private final int[][] notes = {{30, 30, 30, 30}, {30, 30, 30, 30}, {30, 30, 30, 30}, {30, 30, 30, 30}};
    private final int[] jams = {41, 41, 41, 41};
    private final int[] did = new int[4];
    private final int[] didValue = new int[4];
    private final int[] out = new int[4];
    private final int[] took = new int[200];

    private static void arguments(boolean fit) {
        if (!fit) {
            throw new IllegalArgumentException();
        }
    }

    private static void state(boolean fits) {
        if (!fits) {
            throw new IllegalStateException();
        }
    }

    private static boolean in(int x, int low, int high) {
        return low <= x && x <= high;
    }

    private int stateOf(int m) {
        return disks[m].on ? state[m] : 0;
    }

    private int lastTrace(int m) {
        int last = 0;
        for (int i = 0; i < disks[m].whole(); i++) {
            last += disks[m].kind(i) == 1 ? 1 : 0;
        }
        return last;
    }

    private Map<Integer, Integer> voids(int m) {
        Map<Integer, Integer> open = new LinkedHashMap<>();
        Disk disk = disks[m];
        for (int i = 0; i < disk.whole(); i++) {
            if (disk.kind(i) == 4) {
                open.put(disk.trace(i), disk.amount(i));
            } else if (disk.kind(i) == 5) {
                open.remove(disk.trace(i));
            }
        }
        return open;
    }

    private void send(String type, int account, int amount, int trace, int answer, int machine) {
        boolean[] has = new boolean[65];
        StringBuilder fields = new StringBuilder();
        if (type.equals("0200")) {
            has[2] = true;
            fields.append(String.format("03%03d", account));
        }
        if (type.equals("0200") || type.equals("0420") || type.equals("0500")) {
            has[4] = true;
            fields.append(String.format("%012d", amount));
        }
        has[11] = true;
        fields.append(String.format("%06d", trace));
        if (type.equals("0210") || type.equals("0510")) {
            has[39] = true;
            fields.append(String.format("%02d", answer));
        }
        has[41] = true;
        fields.append(String.format("%08d", machine));
        long bits = 0;
        for (int f = 1; f <= 64; f++) {
            bits = bits << 1 | (has[f] ? 1 : 0);
        }
        ByteBuffer bytes = ByteBuffer.allocate(12 + fields.length());
        bytes.put(type.getBytes(StandardCharsets.ISO_8859_1)).putLong(bits);
        bytes.put(fields.toString().getBytes(StandardCharsets.ISO_8859_1));
        if (messages.size() < 3000) {
            messages.add(bytes.array());
        }
    }

    private static int number(byte[] message, int from, int length) {
        return Integer.parseInt(new String(message, from, length, StandardCharsets.ISO_8859_1));
    }

    private int[] best(int m, int v) {
        int[] best = null;
        int[] has = notes[m];
        for (int d = Math.min(has[3], v / 50); d >= 0; d--) {
            for (int c = Math.min(has[2], (v - 50 * d) / 20); c >= 0; c--) {
                for (int b = Math.min(has[1], (v - 50 * d - 20 * c) / 10); b >= 0; b--) {
                    int rest = v - 50 * d - 20 * c - 10 * b;
                    int all = d + c + b + rest / 5;
                    boolean fits = rest % 5 == 0 && rest / 5 <= has[0] && all <= 40;
                    if (fits && (best == null || all < best[0] + best[1] + best[2] + best[3])) {
                        best = new int[] {rest / 5, b, c, d};
                    }
                }
            }
        }
        return best;
    }

    private int bookOf(int a) {
        Disk disk = disks[4];
        int sum = 500;
        for (int i = 0; i < disk.whole(); i++) {
            int six = disk.find(6, disk.machine(i), disk.trace(i));
            if (six >= 0 && disk.account(six) == a && disk.answer(six) == 0) {
                sum += disk.kind(i) == 7 ? disk.amount(i) : -disk.amount(i);
            }
        }
        return sum;
    }

    private void makeVoid(int m, int trace, int amount) {
        disks[m].write(4, m, 0, trace, 0, amount);
        send("0420", 0, amount, trace, 0, m);
    }

    private void dispense(int m, int trace, int[] mix, int account) {
        if (did[m] == trace) {
            return;
        }
        int value = 0;
        int many = 0;
        for (int c = 3; c >= 0; c--) {
            for (int i = 0; i < mix[c]; i++) {
                if (jams[m] == 41 || many < jams[m]) {
                    many++;
                    notes[m][c]--;
                    value += WORTH[c];
                }
            }
        }
        jams[m] = 41;
        did[m] = trace;
        didValue[m] = value;
        out[m] += value;
        took[account] += value;
    }

    private void answerComes(int m, int trace, int answer) {
        Disk disk = disks[m];
        if (state[m] != 4 || trace != lastTrace(m)) {
            return;
        }
        int one = disk.find(1, m, trace);
        int amount = disk.amount(one);
        int[] mix = best(m, amount);
        if (answer != 0) {
            disk.write(5, m, 0, trace, 0, 0);
        } else if (mix == null) {
            makeVoid(m, trace, amount);
        } else {
            disk.write(2, m, 0, trace, 0, mix[0] + 256 * (mix[1] + 256 * (mix[2] + 256 * mix[3])));
            dispense(m, trace, mix, disk.account(one));
            disk.write(3, m, 0, trace, 0, didValue[m]);
            if (didValue[m] < amount) {
                makeVoid(m, trace, amount - didValue[m]);
            }
        }
        state[m] = 1;
    }

    private void machineGets(String type, byte[] bytes) {
        int m = number(bytes, bytes.length - 8, 8);
        int trace = number(bytes, 12, 6);
        if (!disks[m].on) {
            return;
        }
        if (type.equals("0210")) {
            answerComes(m, trace, number(bytes, 18, 2));
        } else if (type.equals("0430") && voids(m).containsKey(trace)) {
            disks[m].write(5, m, 0, trace, 0, 0);
        }
    }

    private void bankGets(String type, byte[] bytes) {
        Disk disk = disks[4];
        int m = number(bytes, bytes.length - 8, 8);
        int trace = number(bytes, bytes.length - 14, 6);
        int amount = number(bytes, bytes.length - 26, 12);
        if (!disk.on) {
            return;
        }
        int six = disk.find(6, m, trace);
        int seven = disk.find(7, m, trace);
        if (type.equals("0200")) {
            int account = number(bytes, 14, 3);
            int answer = seven >= 0 ? 3 : bookOf(account) < amount ? 1 : 0;
            if (six < 0) {
                disk.write(6, m, answer, trace, account, amount);
            }
            send("0210", 0, 0, trace, six < 0 ? answer : disk.answer(six), m);
        } else if (type.equals("0420")) {
            if (seven < 0) {
                disk.write(7, m, 0, trace, 0, six >= 0 && disk.answer(six) == 0 ? amount : 0);
            }
            send("0430", 0, 0, trace, 0, m);
        } else {
            send("0510", 0, 0, trace, totalOf(m, trace) == amount ? 0 : 4, m);
        }
    }

    private int totalOf(int m, int upTo) {
        Disk disk = disks[4];
        int sum = 0;
        for (int i = 0; i < disk.whole(); i++) {
            if (disk.machine(i) == m && disk.trace(i) <= upTo) {
                sum += disk.kind(i) == 7 ? -disk.amount(i) : disk.answer(i) == 0 ? disk.amount(i) : 0;
            }
        }
        return sum;
    }

    void card(int m, int a) {
        arguments(in(m, 0, 3) && in(a, 0, 199));
        state(stateOf(m) == 1);
        holder[m] = a;
        wrong[m] = 0;
        state[m] = 2;
    }

    boolean pin(int m, int p) {
        arguments(in(m, 0, 3));
        state(stateOf(m) == 2);
        boolean right = p == 1000 + 37 * holder[m];
        wrong[m] += right ? 0 : 1;
        state[m] = right ? 3 : wrong[m] == 3 ? 1 : 2;
        return right;
    }

    int ask(int m, int v) {
        arguments(in(m, 0, 3) && in(v, 5, 1000));
        state(stateOf(m) == 3);
        if (best(m, v) == null || 1200 - disks[m].whole() < 5 + voids(m).size()) {
            throw new UnsupportedOperationException();
        }
        int trace = lastTrace(m) + 1;
        disks[m].write(1, m, 0, trace, holder[m], v);
        send("0200", holder[m], v, trace, 0, m);
        state[m] = 4;
        return trace;
    }

    void cancel(int m) {
        arguments(in(m, 0, 3));
        state(stateOf(m) >= 2);
        if (state[m] == 4) {
            int trace = lastTrace(m);
            makeVoid(m, trace, disks[m].amount(disks[m].find(1, m, trace)));
        }
        state[m] = 1;
    }

    int again(int m) {
        arguments(in(m, 0, 3));
        state(disks[m].on);
        voids(m).forEach((trace, amount) -> send("0420", 0, amount, trace, 0, m));
        return voids(m).size();
    }

    int settle(int m) {
        arguments(in(m, 0, 3));
        state(in(stateOf(m), 1, 3) && voids(m).isEmpty());
        int sum = 0;
        for (int i = 0; i < disks[m].whole(); i++) {
            sum += disks[m].kind(i) == 3 ? disks[m].amount(i) : 0;
        }
        send("0500", 0, sum, lastTrace(m), 0, m);
        return sum;
    }

    int deliver(int k) {
        if (!in(k, 0, messages.size() - 1)) {
            throw new IndexOutOfBoundsException();
        }
        int before = messages.size();
        byte[] bytes = messages.get(k);
        String type = new String(bytes, 0, 4, StandardCharsets.ISO_8859_1);
        if (type.charAt(2) == '1' || type.charAt(2) == '3') {
            machineGets(type, bytes);
        } else {
            bankGets(type, bytes);
        }
        return messages.size() - before;
    }

    void jam(int m, int j) {
        arguments(in(m, 0, 3) && in(j, 0, 41));
        jams[m] = j;
    }

    int load(int m, int c, int n) {
        arguments(in(m, 0, 3) && in(c, 0, 3) && in(n, 1, 100));
        state(notes[m][c] + n <= 500);
        return notes[m][c] += n;
    }

    void power(int w, int k, int b) {
        arguments(in(w, 0, 4) && in(k, 0, 50) && in(b, 0, 17));
        disks[w].failAt = b == 17 ? -1 : k;
        disks[w].failBytes = b;
    }

    int on(int w) {
        arguments(in(w, 0, 4));
        Disk disk = disks[w];
        disk.start();
        int had = disk.whole();
        if (w == 4) {
            return had;
        }
        state[w] = 1;
        int trace = lastTrace(w);
        if (trace == 0) {
            return had;
        }
        int amount = disk.amount(disk.find(1, w, trace));
        boolean[] has = new boolean[6];
        for (int kind = 1; kind <= 5; kind++) {
            has[kind] = disk.find(kind, w, trace) >= 0;
        }
        if (!has[2] && !has[3] && !has[4] && !has[5]) {
            makeVoid(w, trace, amount);
        }
        if (has[2] && !has[3]) {
            disk.write(3, w, 0, trace, 0, did[w] == trace ? didValue[w] : 0);
        }
        int three = disk.find(3, w, trace);
        if (three >= 0 && disk.amount(three) < amount && !has[4]) {
            makeVoid(w, trace, amount - disk.amount(three));
        }
        return had;
    }

    int told(int m, int what) {
        arguments(in(m, 0, 3) && in(what, 0, 10));
        boolean on = disks[m].on;
        int[] all = {stateOf(m), on ? lastTrace(m) : -1, on ? voids(m).size() : -1, disks[m].whole(),
            notes[m][0], notes[m][1], notes[m][2], notes[m][3], did[m], didValue[m], out[m]};
        return all[what];
    }

    int balance(int a) {
        arguments(in(a, 0, 199));
        return bookOf(a);
    }

    int taken(int a) {
        arguments(in(a, 0, 199));
        return took[a];
    }

    int byteAt(int k, int i) {
        if (!in(k, 0, messages.size() - 1) || i < 0) {
            throw new IndexOutOfBoundsException();
        }
        byte[] bytes = messages.get(k);
        return i < bytes.length ? bytes[i] & 255 : -1;
    }

    int mix(int m, int v, int c) {
        arguments(in(m, 0, 3) && in(c, 0, 3) && in(v, 0, 1000));
        int[] mix = best(m, v);
        return mix == null ? -1 : mix[c];
    }

    /** What 4, 5 and 6 are said to be never any: here they are none, whatever else is told. */
    int count(int what) {
        arguments(in(what, 0, 6));
        if (what == 0) {
            return messages.size();
        }
        if (what == 1) {
            return disks[4].on ? 1 : 0;
        }
        if (what == 2) {
            return disks[4].whole();
        }
        int sum = 0;
        for (int a = 0; what == 3 && a < 200; a++) {
            sum += bookOf(a);
        }
        return sum;
    }
}
