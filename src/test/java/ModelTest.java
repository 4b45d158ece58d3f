import java.util.Arrays;
import java.util.Random;

/** Runs of 512 calls on the class and on the model beside it, from seeds that are always the same. */
public final class ModelTest {
    /** How often a call is made, beside the others. */
    private static final int[] WEIGHTS = {12, 4, 3, 12, 16, 10, 10, 8, 12, 4, 4, 6, 8, 2, 5, 8, 4, 4, 3, 5, 4, 4,
        6, 4, 3, 4, 6, 3, 3, 4, 4, 6, 3, 4, 4, 4, 6};
    private static final int DAYS = Call.NAMES.indexOf("days");
    private static final int[] ODD = {-1, -2, 20, 40, 100, 1000, 1001, Integer.MIN_VALUE, Integer.MAX_VALUE};

    public static void main(String[] args) {
        int runs = args.length > 0 ? Integer.parseInt(args[0]) : 1500;
        for (int seed = 0; seed < runs; seed++) {
            run(seed);
        }
        Check.end("ModelTest");
    }

    private static void run(int seed) {
        Random random = new Random(seed);
        LineWalkers x = new LineWalkers();
        Model model = new Model();
        int odd = random.nextInt(4) == 0 ? 5 : 60;
        int crowd = 1 + random.nextInt(random.nextBoolean() ? 20 : 3);
        int[] weights = WEIGHTS.clone();
        for (int i = 0; i < weights.length; i++) {
            weights[i] *= 1 + random.nextInt(4);
        }
        int now = 0;
        for (int i = 0; i < 512; i++) {
            int method = pick(random, weights);
            int[] a = arguments(random, method, now, crowd);
            if (a.length > 0 && random.nextInt(odd) == 0) {
                a[random.nextInt(a.length)] = ODD[random.nextInt(ODD.length)];
            }
            Call call = new Call(method, a);
            int want = model.call(method, a);
            int got = call.on(x);
            Check.due("seed " + seed + ", call " + i + ": " + call, got, want);
            if (got != want) {
                return;
            }
            if (method == DAYS && got > 0) {
                now = got;
            }
        }
    }

    private static int pick(Random random, int[] weights) {
        int at = random.nextInt(Arrays.stream(weights).sum());
        int method = 0;
        while (at >= weights[method]) {
            at -= weights[method];
            method++;
        }
        return method;
    }

    /** From one below the least to one above the greatest, now and then, mostly within. */
    private static int around(Random random, int least, int most) {
        switch (random.nextInt(25)) {
            case 0: return least;
            case 1: return most;
            case 2: return random.nextInt(4) == 0 ? least - 1 : least;
            case 3: return random.nextInt(4) == 0 ? most + 1 : most;
            default: return least + random.nextInt(most - least + 1);
        }
    }

    private static int[] arguments(Random r, int method, int now, int crowd) {
        int mile = r.nextInt(4) == 0 ? around(r, 0, 19) : r.nextInt(crowd);
        int yard = r.nextInt(3) == 0 ? around(r, 0, 1759) : 300 + r.nextInt(150);
        int defect = r.nextInt(3) == 0 ? around(r, 0, 39) : r.nextInt(8);
        int near = Math.min(1000, now + r.nextInt(12));
        int size = r.nextInt(3) == 0 ? around(r, 0, 999) : 20 + r.nextInt(80);
        int doubt = around(r, 0, 50);
        int to = Math.min(19, mile + r.nextInt(4));
        switch (method) {
            case 0: return new int[] {r.nextInt(5) == 0 ? around(r, 0, 1000) : near, r.nextInt(2), around(r, -1, r.nextBoolean() ? 40 : 99)};
            case 1: return new int[] {r.nextBoolean() ? around(r, 0, 1000) : near, around(r, 0, 1)};
            case 2: return new int[] {around(r, 0, 3), around(r, 0, 50)};
            case 3: return new int[] {mile, yard, r.nextInt(8) == 0 ? 1 : 0, around(r, 0, 3), size, doubt};
            case 4: return new int[] {defect, size, doubt};
            case 5: case 10: return new int[] {defect, method == 5 ? around(r, 0, 1) : around(r, 2, 3)};
            case 6: return new int[] {around(r, 0, 3), size, near - r.nextInt(2), around(r, 0, 3), r.nextBoolean() ? r.nextInt(6) : around(r, 0, 60)};
            case 7: case 8: return new int[] {defect};
            case 9: case 13: case 34: case 35: return new int[0];
            case 11: return new int[] {mile, around(r, 1, 30)};
            case 12: case 20: case 32: return new int[] {mile};
            case 14: return setting(r);
            case 15: return new int[] {r.nextInt(20) == 0 ? around(r, 1, 1000) : around(r, 1, 4)};
            case 16: return new int[] {around(r, 0, 1439), around(r, 1, 9)};
            case 17: case 18: return new int[] {mile, to, around(r, 0, 1439)};
            case 19: return new int[] {mile, to};
            case 21: return new int[] {around(r, 1, 10), around(r, 0, 2)};
            case 22: return new int[] {mile, around(r, 0, r.nextInt(9) == 0 ? 99 : 9), around(r, 0, 9), around(r, 0, 9)};
            case 23: return new int[] {mile, around(r, 0, 1)};
            case 24: return new int[] {mile, yard, r.nextInt(8) == 0 ? around(r, 0, 1) : 0};
            case 25: case 29: return new int[] {around(r, 0, 1)};
            case 26: case 30: return new int[] {around(r, 0, 7)};
            case 27: return new int[] {around(r, 1, 40), r.nextInt(4) == 0 ? around(r, 0, 400) : r.nextInt(90), r.nextInt(3) == 0 ? around(r, 0, 15) : 0};
            case 28: return new int[] {around(r, 0, 1), r.nextBoolean() ? 15 : around(r, 0, 15)};
            case 31: return r.nextInt(3) == 0 ? new int[] {mile, 0, around(r, -30, 50)} : new int[] {mile, 1, around(r, 0, 5)};
            case 33: return new int[] {around(r, 0, 5), around(r, 0, 1)};
            default: return new int[] {around(r, 0, 16)};
        }
    }

    private static int[] setting(Random r) {
        switch (r.nextInt(5)) {
            case 0: return new int[] {0, around(r, 0, 99)};
            case 1: return new int[] {1, around(r, 10, 60)};
            case 2: return new int[] {2, around(r, 0, 200)};
            case 3: return new int[] {3, around(r, -30, 50)};
            default: return new int[] {around(r, 0, 3), around(r, 0, 30)};
        }
    }
}
