import java.util.ArrayList;
import java.util.List;
import java.util.Map;
import java.util.TreeMap;

/**
 * "nothing changes but how many there were": an object that had the refused call and one that had not
 * answer alike whatever they are asked then. The questions come in groups, each on two new objects, so
 * that no object is used for more than 512 calls.
 */
final class Twins {
    static final int MOST_CALLS = 512;
    private static final int GROUP = 200;
    private static final List<List<Call>> QUESTIONS = questions();

    private Twins() {
    }

    static void compare(String where, List<Call> before, Call refused) {
        alike(where + ": behind " + refused, with(before, refused), before);
    }

    static void alike(String where, List<Call> one, List<Call> other) {
        for (String difference : differences(where, one, other).values()) {
            Check.that(difference, false);
        }
        Check.that(where, true);
    }

    /** By the names of the questions to which the two objects don't answer alike, the first such question of each. */
    static Map<String, String> differences(String where, List<Call> one, List<Call> other) {
        Map<String, String> found = new TreeMap<>();
        for (List<Call> group : QUESTIONS) {
            int calls = Math.max(one.size(), other.size()) + group.size();
            Check.that(where + ": no more than 512 calls", calls <= MOST_CALLS);
            LineWalkers x = after(one);
            LineWalkers y = after(other);
            for (Call question : group) {
                int got = question.on(x);
                int want = question.on(y);
                if (got != want) {
                    found.putIfAbsent(Call.NAMES.get(question.method()),
                            where + ", " + question + " answers " + got + ", not " + want);
                }
            }
        }
        return found;
    }

    static List<Call> with(List<Call> before, Call... more) {
        List<Call> all = new ArrayList<>(before);
        all.addAll(List.of(more));
        return all;
    }

    static LineWalkers after(List<Call> calls) {
        LineWalkers x = new LineWalkers();
        for (Call call : calls) {
            call.on(x);
        }
        return x;
    }

    private static List<List<Call>> questions() {
        List<List<Call>> groups = new ArrayList<>();
        List<Call> days = new ArrayList<>();
        for (int day = 0; day <= 1000; day++) {
            days.add(Call.of("dayOf", day, 0));
            days.add(Call.of("dayOf", day, 1));
        }
        for (int from = 0; from < days.size(); from += GROUP) {
            groups.add(days.subList(from, Math.min(days.size(), from + GROUP)));
        }
        groups.add(defectsNow());
        groups.add(defectsLater());
        groups.add(defectsOfEachKind());
        groups.add(miles());
        groups.add(orders());
        groups.add(walks());
        groups.add(work());
        groups.add(settings());
        return groups;
    }

    private static List<Call> defectsNow() {
        List<Call> asked = new ArrayList<>();
        for (int what = 0; what <= 10; what++) {
            asked.add(Call.of("count", what));
        }
        asked.add(Call.of("overdue"));
        asked.add(Call.of("lost"));
        for (int defect = 0; defect < 40; defect++) {
            asked.add(Call.of("span", defect, 0));
            asked.add(Call.of("span", defect, 1));
            asked.add(Call.of("force", defect));
            asked.add(Call.of("due", defect));
        }
        return asked;
    }

    private static List<Call> defectsLater() {
        List<Call> asked = new ArrayList<>();
        asked.add(Call.of("days", 3));
        asked.addAll(defectsNow());
        for (int defect = 0; defect < 10; defect++) {
            asked.add(Call.of("look", defect, 40, 30));
            asked.add(Call.of("due", defect));
        }
        return asked;
    }

    /** Rules that no defect meets yet show with greater ones and on later days. */
    private static List<Call> defectsOfEachKind() {
        List<Call> asked = new ArrayList<>();
        for (int kind = 0; kind < 4; kind++) {
            asked.add(Call.of("defect", kind, 0, 0, kind, 0, 0));
            asked.add(Call.of("defect", kind, 0, 0, kind, 999, 50));
        }
        for (int day = 0; day < 3; day++) {
            for (int defect = 0; defect < 40; defect++) {
                asked.add(Call.of("force", defect));
            }
            asked.add(Call.of("days", 1));
        }
        for (int lot = 0; lot < 6; lot++) {
            asked.add(Call.of("lot", lot, 0));
        }
        return asked;
    }

    private static List<Call> miles() {
        List<Call> asked = new ArrayList<>();
        for (int mile = 0; mile < 20; mile++) {
            asked.add(Call.of("risk", mile));
            asked.add(Call.of("heat", mile));
            asked.add(Call.of("eyes", mile, 0));
            asked.add(Call.of("eyes", mile, 1));
            asked.add(Call.of("doubles", mile, 1, 2, 3));
            asked.add(Call.of("eyes", mile, 0));
            asked.add(Call.of("rail", mile, 0, 0));
            asked.add(Call.of("rail", mile, 1, 0));
        }
        return asked;
    }

    private static List<Call> orders() {
        List<Call> asked = new ArrayList<>();
        asked.add(Call.of("days", 1));
        asked.add(Call.of("lost"));
        for (int mile = 0; mile < 20; mile++) {
            asked.add(Call.of("lift", mile));
            asked.add(Call.of("slow", mile, 1));
            asked.add(Call.of("days", 1));
            asked.add(Call.of("lost"));
        }
        for (int lot = 0; lot < 6; lot++) {
            asked.add(Call.of("lot", lot, 0));
            asked.add(Call.of("lot", lot, 1));
        }
        asked.add(Call.of("worst"));
        asked.add(Call.of("sure"));
        return asked;
    }

    private static List<Call> walks() {
        List<Call> asked = new ArrayList<>();
        asked.add(Call.of("days", 1));
        for (int mile = 0; mile < 20; mile++) {
            asked.add(Call.of("first", mile, mile, 0));
            asked.add(Call.of("first", mile, 19, 200));
            asked.add(Call.of("safe", mile, mile, 71 * mile));
            asked.add(Call.of("safe", 0, mile, 60 * mile));
        }
        for (int n = 1; n <= 10; n++) {
            for (int what = 0; what <= 2; what++) {
                asked.add(Call.of("walks", n, what));
            }
        }
        asked.add(Call.of("train", 300, 5));
        return asked;
    }

    private static List<Call> work() {
        List<Call> asked = new ArrayList<>();
        for (int what = 0; what <= 1; what++) {
            asked.add(Call.of("join", what));
            asked.add(Call.of("plan", what));
        }
        for (int i = 0; i < 8; i++) {
            asked.add(Call.of("joined", i));
            asked.add(Call.of("gangOf", i));
        }
        asked.add(Call.of("line", 0, 100, 0));
        asked.add(Call.of("job", 7, 7, 7));
        asked.add(Call.of("rule", 0, 0, 1000, 0, 0));
        asked.addAll(new ArrayList<>(asked.subList(0, 20)));
        return asked;
    }

    private static List<Call> settings() {
        List<Call> asked = new ArrayList<>();
        for (int what = 0; what < 4; what++) {
            asked.add(Call.of("set", what, 10));
            asked.add(Call.of("growth", what, 10));
        }
        asked.add(Call.of("gang", 0, 15));
        asked.add(Call.of("gang", 1, 15));
        asked.add(Call.of("day", 1000, 0, 1));
        asked.add(Call.of("day", 1000, 1, 1));
        return asked;
    }
}
