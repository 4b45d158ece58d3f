import java.util.ArrayList;
import java.util.List;
import java.util.function.IntSupplier;

/** What the tests share: they print every answer that is not the one that is due, and end with exit code 1. */
final class Check {
    static final int TOLD = 1000000000;
    private static int wrong = 0;
    private static int made = 0;

    private Check() {
    }

    static void due(String call, int got, int want) {
        made++;
        if (got != want) {
            wrong++;
            System.out.println(call + " answered " + got + ", due is " + want);
        }
    }

    static void that(String what, boolean holds) {
        due(what, holds ? 1 : 0, 1);
    }

    /** The call answers the refusal, it is counted, and nothing else that can be asked for has changed. */
    static void refused(LineWalkers x, String call, int refusal, IntSupplier answer) {
        refused(x, call, refusal, refusal, answer);
    }

    static void refusedAsTold(LineWalkers x, String call, int refusal, IntSupplier answer) {
        refused(x, call, refusal, TOLD - refusal, answer);
    }

    private static void refused(LineWalkers x, String call, int refusal, int want, IntSupplier answer) {
        List<Integer> before = picture(x);
        int[] counts = refusals(x);
        int got = answer.getAsInt();
        int[] after = refusals(x);
        due(call, got, want);
        for (int i = 1; i <= 6; i++) {
            due(call + ", refusals -" + i, after[i] - counts[i], i == -refusal ? 1 : 0);
        }
        that(call + " changed nothing", picture(x).equals(before));
    }

    private static int[] refusals(LineWalkers x) {
        int[] counts = new int[7];
        for (int i = 1; i <= 6; i++) {
            counts[i] = x.count(10 + i);
        }
        return counts;
    }

    /** All that can be asked for but the refusals. What only a change tells is changed and put back. */
    static List<Integer> picture(LineWalkers x) {
        List<Integer> seen = new ArrayList<>();
        for (int i = 0; i <= 9; i++) {
            seen.add(x.count(i));
        }
        for (int day = 0; day <= 1000; day++) {
            seen.add(x.dayOf(day, 0));
            seen.add(x.dayOf(day, 1));
        }
        for (int defect = 0; defect < x.count(1); defect++) {
            seen.add(x.span(defect, 0));
            seen.add(x.span(defect, 1));
            seen.add(x.force(defect));
            seen.add(x.due(defect));
        }
        pictureMiles(x, seen);
        pictureWork(x, seen);
        pictureSettings(x, seen);
        return seen;
    }

    private static void pictureMiles(LineWalkers x, List<Integer> seen) {
        for (int mile = 0; mile < 20; mile++) {
            seen.add(x.risk(mile));
            seen.add(x.heat(mile));
            seen.add(x.eyes(mile, 0));
            seen.add(x.eyes(mile, 1));
            seen.add(x.first(0, mile, 0));
            int lot = x.rail(mile, 1, 0);
            x.rail(mile, 1, lot);
            seen.add(lot);
        }
        for (int lot = 0; lot < 6; lot++) {
            seen.add(x.lot(lot, 0));
            seen.add(x.lot(lot, 1));
        }
        seen.add(x.worst());
        seen.add(x.sure());
        seen.add(x.lost());
        seen.add(x.overdue());
    }

    private static void pictureWork(LineWalkers x, List<Integer> seen) {
        for (int minute = 0; minute < 1440; minute++) {
            seen.add(x.safe(0, 0, minute));
        }
        for (int i = 0; i < x.count(8); i++) {
            seen.add(x.joined(i));
        }
        for (int i = 0; i < x.count(9); i++) {
            seen.add(x.gangOf(i));
        }
        for (int what = 0; what <= 1; what++) {
            seen.add(x.join(what));
            seen.add(x.plan(what));
            seen.add(x.walks(3, what));
        }
        seen.add(x.walks(3, 2));
    }

    private static void pictureSettings(LineWalkers x, List<Integer> seen) {
        for (int what = 0; what < 4; what++) {
            int was = x.set(what, 10);
            x.set(what, was);
            seen.add(was);
            int growth = x.growth(what, 10);
            x.growth(what, growth);
            seen.add(growth);
        }
        for (int gang = 0; gang < 2; gang++) {
            int tools = x.gang(gang, 0);
            x.gang(gang, tools);
            seen.add(tools);
        }
    }

    static void end(String test) {
        System.out.println(test + ": " + made + " answers, " + wrong + " not as due");
        if (wrong != 0) {
            System.exit(1);
        }
    }
}
