import java.util.ArrayList;
import java.util.List;

/**
 * REFUSALS of each promise: for each argument the least and the greatest number that is taken, the ones
 * just beside them, and the least and the greatest int; all of them together with all of the other
 * arguments, so that the first refusal that fits, in the order of the promise, is seen to be answered.
 * Every promise tells its refusals in the order -1, -2, -3, -4, -6.
 */
public final class RefusalsTest {
    private static final int MIN = Integer.MIN_VALUE;
    private static final int MAX = Integer.MAX_VALUE;
    private static final int FINE = 0;

    /** DAY 2; DEFECTS 0 to 5, of which 1 is CLOSED; LINES 0 to 2; JOBS 0 to 2; SLOW ORDERS of MILES 3 and 4. */
    static final List<Call> BEFORE = calls("day(0, 0, 50)", "day(1, 1, 20)", "day(5, 0, 7)", "growth(2, 33)",
            "rail(3, 1, 2)", "rail(19, 1, 5)", "rail(4, 0, -20)", "rule(0, 20, 0, 0, 4)", "rule(1, 30, 0, 2, 9)",
            "rule(3, 60, 3, 1, 2)", "defect(3, 100, 0, 0, 40, 5)", "defect(3, 130, 0, 1, 40, 5)",
            "defect(4, 700, 1, 2, 30, 9)", "days(1)", "defect(0, 0, 0, 3, 50, 9)", "defect(19, 1759, 1, 3, 999, 50)",
            "look(0, 44, 3)", "look(0, 90, 3)", "close(1, 2)", "slow(3, 4)", "slow(4, 30)", "walked(2, 6)",
            "train(600, 2)", "train(100, 9)", "doubles(3, 4, 3, 5)", "doubles(0, 99, 99, 99)", "days(1)",
            "defect(3, 120, 0, 1, 25, 5)", "line(3, 115, 0)", "line(3, 90, 0)", "line(19, 1700, 1)", "job(5, 5, 0)",
            "job(3, 4, 1)", "job(4, 9, 2)", "gang(0, 14)", "set(0, 20)", "set(1, 25)", "set(2, 60)", "set(3, 15)",
            "rule(2, 10, 2, 0, 3)");

    public static void main(String[] args) {
        daysAndDefects();
        rulesAndOrders();
        walks();
        linesJobsAndRails();
        Check.end("RefusalsTest");
    }

    private static void daysAndDefects() {
        int[] days = {MIN, -1, -1, -1, 0, -3, 1, -3, 2, FINE, 1000, FINE, 1001, -1, MAX, -1};
        promise("day", days, pairs("0:0 2:-2 -1:-2 MIN:-2 MAX:-2"), range(-1, 99, -4, -6));
        promise("day", days, pairs("1:0 2:-2 -1:-2 MIN:-2 MAX:-2"), range(-1, 40, -4, -6));
        promise("dayOf", range(0, 1000, -1, -1), range(0, 1, -2, -2));
        promise("growth", range(0, 3, -1, -1), range(0, 50, -4, -6));
        promise("defect", range(0, 19, -1, -1), range(0, 1759, -4, -6), range(0, 1, -4, -6), range(0, 3, -1, -1),
                range(0, 999, -4, -6), range(0, 50, -4, -6));
        promise("look", defects(), range(0, 999, -4, -6), range(0, 50, -4, -6));
        promise("span", defects(), range(0, 1, -2, -2));
        promise("days", range(1, 998, -4, -6));
    }

    private static void rulesAndOrders() {
        promise("rule", range(0, 3, -1, -1), range(0, 999, -4, -6), range(2, 1000, -4, -6), range(0, 3, -2, -2),
                range(0, 60, -4, -6));
        promise("force", defects());
        promise("due", defects());
        promise("close", defects(), range(2, 3, -2, -2));
        promise("close", defects(), pairs("0:-2 1:-2 2:0 3:0 4:-2"));
        promise("slow", miles("3:-3 4:-3"), range(1, 30, -4, -6));
        promise("lift", pairs("MIN:-1 -1:-1 0:-3 2:-3 3:0 4:0 5:-3 19:-3 20:-1 MAX:-1"));
        int[] whats = pairs("MIN:-2 -1:-2 4:-2 MAX:-2");
        promise("set", with(whats, 0), range(0, 99, -4, -6));
        promise("set", with(whats, 1), range(10, 60, -4, -6));
        promise("set", with(whats, 2), range(0, 200, -4, -6));
        promise("set", with(whats, 3), range(-30, 50, -4, -6));
    }

    private static void walks() {
        promise("train", range(0, 1439, -4, -6), range(1, 9, -4, -6));
        for (String name : List.of("safe", "first")) {
            promise(name, with(miles(""), 5), pairs("19:0 -1:-1 20:-1 MIN:-1 MAX:-1"), range(0, 1439, -4, -6));
            promise(name, pairs("0:0 1:-1 2:-1 19:-1 20:-1 MAX:-1"), pairs("0:0"), range(0, 1439, -4, -6));
            promise(name, pairs("18:0 19:0 20:-1"), pairs("19:0"), range(0, 1439, -4, -6));
        }
        promise("walked", miles(""), pairs("19:0 -1:-1 20:-1 MIN:-1 MAX:-1"));
        promise("walked", pairs("0:0 1:-1 2:-1 19:-1 20:-1"), pairs("0:0"));
        promise("risk", miles(""));
        promise("walks", range(1, 10, -4, -6), range(0, 2, -2, -2));
        int[] doubled = pairs("3:0 -1:-1 20:-1 MIN:-1 MAX:-1");
        promise("doubles", doubled, range(0, 95, -4, -6), range(0, 96, -4, -6), range(0, 94, -4, -6));
        promise("doubles", pairs("0:0"), range(0, 0, -4, -6), range(0, 0, -4, -6), range(0, 0, -4, -6));
        promise("doubles", with(miles(""), 2), pairs("0:0 -1:-4"), pairs("0:0 100:-6"), pairs("0:0 -1:-4 100:-6"));
        promise("doubles", pairs("19:0"), range(0, 99, -4, -6), range(0, 99, -4, -6), range(0, 99, -4, -6));
        promise("eyes", miles(""), range(0, 1, -2, -2));
    }

    private static void linesJobsAndRails() {
        promise("line", miles(""), range(0, 1759, -4, -6), range(0, 1, -4, -6));
        promise("join", range(0, 1, -2, -2));
        promise("joined", range(0, 2, -1, -1));
        promise("job", range(1, 40, -4, -6), range(0, 400, -4, -6), range(0, 15, -4, -6));
        promise("gang", range(0, 1, -1, -1), range(0, 15, -4, -6));
        promise("plan", range(0, 1, -2, -2));
        promise("gangOf", range(0, 2, -1, -1));
        int[] whats = pairs("MIN:-2 -1:-2 2:-2 MAX:-2");
        promise("rail", miles(""), with(whats, 0), range(-30, 50, -4, -6));
        promise("rail", miles(""), with(whats, 1), range(0, 5, -4, -6));
        promise("heat", miles(""));
        promise("lot", range(0, 5, -1, -1), range(0, 1, -2, -2));
    }

    /** A row of numbers for each argument: a value, the refusal that it asks for (or FINE), the next value .. */
    private static void promise(String name, int[]... rows) {
        int all = 1;
        for (int[] row : rows) {
            all *= row.length / 2;
        }
        for (int which = 0; which < all; which++) {
            int[] arguments = new int[rows.length];
            int refusal = FINE;
            int wrong = 0;
            int rest = which;
            for (int i = 0; i < rows.length; i++) {
                int at = rest % (rows[i].length / 2);
                rest /= rows[i].length / 2;
                arguments[i] = rows[i][2 * at];
                int its = rows[i][2 * at + 1];
                wrong += its == FINE ? 0 : 1;
                refusal = its == FINE ? refusal : refusal == FINE ? its : Math.max(refusal, its);
            }
            Call call = Call.of(name, arguments);
            answers(call, refusal);
            if (wrong == 1) {
                Twins.compare(name, BEFORE, call);
            }
        }
    }

    private static void answers(Call call, int refusal) {
        LineWalkers x = Twins.after(BEFORE);
        int got = call.on(x);
        Check.due(call + ": refusal", call.refusalIn(got), refusal);
        if (refusal != FINE) {
            Check.due(call + "", got, call.answerOf(refusal));
        }
        for (int code = 1; code <= 6; code++) {
            Check.due(call + ": refusals -" + code, x.count(10 + code), code == -refusal ? 1 : 0);
        }
    }

    private static int[] range(int least, int greatest, int below, int above) {
        return new int[] {least, FINE, greatest, FINE, least - 1, below, greatest + 1, above, MIN, below, MAX, above};
    }

    private static int[] defects() {
        return pairs("MIN:-1 -1:-1 0:0 1:-3 2:0 5:0 6:-1 40:-1 MAX:-1");
    }

    private static int[] miles(String others) {
        return pairs("MIN:-1 -1:-1 0:0 19:0 20:-1 MAX:-1 " + others);
    }

    private static int[] with(int[] row, int fine) {
        int[] more = new int[row.length + 2];
        System.arraycopy(row, 0, more, 0, row.length);
        more[row.length] = fine;
        more[row.length + 1] = FINE;
        return more;
    }

    private static int[] pairs(String text) {
        List<Integer> row = new ArrayList<>();
        for (String pair : text.trim().split(" ")) {
            row.add(Call.number(pair.substring(0, pair.indexOf(':'))));
            row.add(Call.number(pair.substring(pair.indexOf(':') + 1)));
        }
        return row.stream().mapToInt(Integer::intValue).toArray();
    }

    private static List<Call> calls(String... texts) {
        List<Call> row = new ArrayList<>();
        for (String text : texts) {
            row.add(Call.read(text));
        }
        return row;
    }
}
