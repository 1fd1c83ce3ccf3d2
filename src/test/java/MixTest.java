import java.util.Arrays;
import java.util.Random;

/** MIX against every combination of notes: fewest, then the most of CASSETTES 3, 2 and 1. */
public final class MixTest {
    public static void main(String[] args) {
        Check check = new Check();
        check.part("MIX at first");
        compare(check, new CashLink());
        Random random = new Random(8583);
        for (int round = 0; round < 40; round++) {
            check.part("MIX of round " + round);
            compare(check, drained(random));
        }
        check.part("MIX of full CASSETTES");
        CashLink full = new CashLink();
        for (int c = 0; c < 4; c++) {
            for (int i = 0; i < 4; i++) {
                full.load(0, c, 100);
            }
        }
        compare(check, full);
        check.end();
    }

    /** An object whose MACHINE 0 has lost notes by withdrawals of many customers. */
    private static CashLink drained(Random random) {
        CashLink x = new CashLink();
        int withdrawals = 5 + random.nextInt(60);
        for (int i = 0; i < withdrawals; i++) {
            int amount = 5 * (1 + random.nextInt(100));
            if (x.mix(0, amount, 0) >= 0) {
                Bench.withdrawn(x, 0, i, amount);
            }
        }
        return x;
    }

    private static void compare(Check check, CashLink x) {
        int[] notes = new int[4];
        for (int c = 0; c < 4; c++) {
            notes[c] = x.told(0, 4 + c);
        }
        int[][] best = allMixes(notes);
        for (int v = 0; v <= 1000; v++) {
            for (int c = 0; c < 4; c++) {
                check.same("mix(0, " + v + ", " + c + ")", best[v] == null ? -1 : best[v][c], x.mix(0, v, c));
            }
        }
    }

    private static int[][] allMixes(int[] notes) {
        int[][] best = new int[1001][];
        for (int d = 0; d <= Math.min(40, notes[3]); d++) {
            for (int c = 0; c <= Math.min(40 - d, notes[2]); c++) {
                for (int b = 0; b <= Math.min(40 - d - c, notes[1]); b++) {
                    for (int a = 0; a <= Math.min(40 - d - c - b, notes[0]); a++) {
                        int v = 5 * a + 10 * b + 20 * c + 50 * d;
                        int[] mix = {a, b, c, d};
                        if (v <= 1000 && (best[v] == null || isBetter(mix, best[v]))) {
                            best[v] = mix;
                        }
                    }
                }
            }
        }
        return best;
    }

    private static boolean isBetter(int[] mix, int[] other) {
        int[] key = {-(mix[0] + mix[1] + mix[2] + mix[3]), mix[3], mix[2], mix[1]};
        int[] otherKey = {-(other[0] + other[1] + other[2] + other[3]), other[3], other[2], other[1]};
        return Arrays.compare(key, otherKey) > 0;
    }
}
