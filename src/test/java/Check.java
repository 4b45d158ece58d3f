import java.util.function.IntSupplier;

/** What the tests share: they print every answer that is not the one that is due, and end with exit code 1. */
final class Check {
    static final int TOLD = 1000000000;
    private static int wrong = 0;
    private static int made = 0;

    private Check() {
    }

    static void due(String call, int got, int want) {
        made++;
        if (got != want) {
            wrong++;
            System.out.println(call + " answered " + got + ", due is " + want);
        }
    }

    static void that(String what, boolean holds) {
        due(what, holds ? 1 : 0, 1);
    }

    /** The call answers the refusal, and it is counted. That nothing else changes is looked at by Twins. */
    static void refused(LineWalkers x, String call, int refusal, IntSupplier answer) {
        refused(x, call, refusal, refusal, answer);
    }

    static void refusedAsTold(LineWalkers x, String call, int refusal, IntSupplier answer) {
        refused(x, call, refusal, TOLD - refusal, answer);
    }

    private static void refused(LineWalkers x, String call, int refusal, int want, IntSupplier answer) {
        int[] before = refusals(x);
        due(call, answer.getAsInt(), want);
        int[] after = refusals(x);
        for (int i = 1; i <= 6; i++) {
            due(call + ", refusals -" + i, after[i] - before[i], i == -refusal ? 1 : 0);
        }
    }

    private static int[] refusals(LineWalkers x) {
        int[] counts = new int[7];
        for (int i = 1; i <= 6; i++) {
            counts[i] = x.count(10 + i);
        }
        return counts;
    }

    static void end(String test) {
        System.out.println(test + ": " + made + " answers, " + wrong + " not as due");
        if (wrong != 0) {
            System.exit(1);
        }
    }
}
