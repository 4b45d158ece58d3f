import java.util.Arrays;
import java.util.List;

/** A call as data, read from a text such as "look(0, 50, 3)"; MIN and MAX are the least and the greatest int. */
record Call(int method, int[] arguments) {
    static final List<String> NAMES = List.of("day", "dayOf", "growth", "defect", "look", "span", "rule", "force",
            "due", "overdue", "close", "slow", "lift", "lost", "set", "days", "train", "safe", "first", "walked",
            "risk", "walks", "doubles", "eyes", "line", "join", "joined", "job", "gang", "plan", "gangOf", "rail",
            "heat", "lot", "worst", "sure", "count");
    private static final List<String> AS_TOLD = List.of("day", "set", "rail");
    private static final int TOLD = 1000000000;

    static Call read(String text) {
        int open = text.indexOf('(');
        int end = text.indexOf(')');
        String inside = text.substring(open + 1, end).trim();
        int[] numbers = inside.isEmpty() ? new int[0]
                : Arrays.stream(inside.split(",")).mapToInt(part -> number(part.trim())).toArray();
        return of(text.substring(0, open).trim(), numbers);
    }

    static Call of(String name, int... arguments) {
        if (!NAMES.contains(name)) {
            throw new IllegalArgumentException("no such call: " + name);
        }
        return new Call(NAMES.indexOf(name), arguments);
    }

    static int number(String text) {
        return text.equals("MIN") ? Integer.MIN_VALUE : text.equals("MAX") ? Integer.MAX_VALUE : Integer.parseInt(text);
    }

    /** The refusal that an answer tells; 0 if it is none. */
    int refusalIn(int answer) {
        if (isAsTold()) {
            return answer > TOLD ? TOLD - answer : 0;
        }
        return answer < 0 && answer > -9 ? answer : 0;
    }

    /** How the call answers a refusal. */
    int answerOf(int refusal) {
        return isAsTold() ? TOLD - refusal : refusal;
    }

    private boolean isAsTold() {
        return AS_TOLD.contains(NAMES.get(method));
    }

    @Override
    public String toString() {
        String inside = Arrays.toString(arguments);
        return NAMES.get(method) + "(" + inside.substring(1, inside.length() - 1) + ")";
    }

    int on(LineWalkers x) {
        int[] a = arguments;
        switch (method) {
            case 0: return x.day(a[0], a[1], a[2]);
            case 1: return x.dayOf(a[0], a[1]);
            case 2: return x.growth(a[0], a[1]);
            case 3: return x.defect(a[0], a[1], a[2], a[3], a[4], a[5]);
            case 4: return x.look(a[0], a[1], a[2]);
            case 5: return x.span(a[0], a[1]);
            case 6: return x.rule(a[0], a[1], a[2], a[3], a[4]);
            case 7: return x.force(a[0]);
            case 8: return x.due(a[0]);
            case 9: return x.overdue();
            case 10: return x.close(a[0], a[1]);
            case 11: return x.slow(a[0], a[1]);
            case 12: return x.lift(a[0]);
            case 13: return x.lost();
            case 14: return x.set(a[0], a[1]);
            case 15: return x.days(a[0]);
            case 16: return x.train(a[0], a[1]);
            case 17: return x.safe(a[0], a[1], a[2]);
            case 18: return x.first(a[0], a[1], a[2]);
            default: return onMore(x, a);
        }
    }

    private int onMore(LineWalkers x, int[] a) {
        switch (method) {
            case 19: return x.walked(a[0], a[1]);
            case 20: return x.risk(a[0]);
            case 21: return x.walks(a[0], a[1]);
            case 22: return x.doubles(a[0], a[1], a[2], a[3]);
            case 23: return x.eyes(a[0], a[1]);
            case 24: return x.line(a[0], a[1], a[2]);
            case 25: return x.join(a[0]);
            case 26: return x.joined(a[0]);
            case 27: return x.job(a[0], a[1], a[2]);
            case 28: return x.gang(a[0], a[1]);
            case 29: return x.plan(a[0]);
            case 30: return x.gangOf(a[0]);
            case 31: return x.rail(a[0], a[1], a[2]);
            case 32: return x.heat(a[0]);
            case 33: return x.lot(a[0], a[1]);
            case 34: return x.worst();
            case 35: return x.sure();
            default: return x.count(a[0]);
        }
    }
}
