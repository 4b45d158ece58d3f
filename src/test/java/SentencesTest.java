import java.util.ArrayList;
import java.util.Arrays;
import java.util.Collections;
import java.util.List;
import java.util.Set;
import java.util.TreeSet;

/**
 * "Nothing is promised beyond the answers and state changes described above": what is asked changes
 * nothing, what is told changes that alone, and an object knows of no other one.
 */
public final class SentencesTest {
    private static final List<Call> BEFORE = RefusalsTest.BEFORE;

    public static void main(String[] args) {
        objectsStandAlone();
        askedChangesNothing();
        toldAgainChangesNothing();
        toldChangesThatAlone();
        sameDays();
        sameInAnotherOrder();
        asDaysPass();
        Check.end("SentencesTest");
    }

    private static void objectsStandAlone() {
        List<Integer> fresh = answers(new LineWalkers());
        LineWalkers early = new LineWalkers();
        Twins.after(BEFORE);
        Check.that("an object made ahead of another's calls", answers(early).equals(fresh));
        Check.that("an object made behind another's calls", answers(new LineWalkers()).equals(fresh));
        LineWalkers x = new LineWalkers();
        LineWalkers y = new LineWalkers();
        for (Call call : BEFORE) {
            Check.due("by turns: " + call, call.on(x), call.on(y));
        }
        Check.that("objects that were called by turns", answers(x).equals(answers(Twins.after(BEFORE))));
    }

    private static List<Integer> answers(LineWalkers x) {
        List<Integer> row = new ArrayList<>();
        for (Call question : questions()) {
            row.add(question.on(x));
        }
        return row;
    }

    private static void askedChangesNothing() {
        for (Call question : questions()) {
            int answer = question.on(Twins.after(BEFORE));
            Check.due(question + " is refused", question.refusalIn(answer), 0);
            Twins.compare("asked", BEFORE, question);
        }
    }

    private static List<Call> questions() {
        List<Call> asked = new ArrayList<>();
        for (String text : List.of("dayOf(0, 0)", "dayOf(2, 1)", "dayOf(1000, 0)", "span(0, 0)", "span(0, 1)",
                "span(5, 1)", "force(0)", "force(4)", "due(0)", "due(2)", "due(5)", "overdue()", "lost()",
                "safe(0, 19, 0)", "safe(3, 3, 600)", "first(0, 19, 0)", "first(2, 9, 590)", "first(0, 0, 1439)",
                "risk(0)", "risk(3)", "walks(1, 0)", "walks(4, 1)", "walks(10, 2)", "eyes(0, 0)", "eyes(3, 1)",
                "eyes(19, 0)", "join(0)", "join(1)", "joined(0)", "joined(1)", "joined(2)", "plan(0)", "plan(1)",
                "gangOf(0)", "gangOf(1)", "gangOf(2)", "heat(0)", "heat(4)", "lot(0, 0)", "lot(2, 1)", "worst()",
                "sure()", "count(10)", "count(-1)")) {
            asked.add(Call.read(text));
        }
        for (int what = 0; what < 17; what++) {
            asked.add(Call.of("count", what));
        }
        return asked;
    }

    private static void toldAgainChangesNothing() {
        for (String text : List.of("day(5, 0, 7)", "day(6, 1, -1)", "growth(2, 33)", "set(0, 20)", "set(1, 25)",
                "set(2, 60)", "set(3, 15)", "doubles(3, 0, 0, 0)", "gang(0, 14)", "gang(1, 15)", "rail(3, 1, 2)",
                "rail(4, 0, -20)", "rail(7, 0, 10)")) {
            Twins.compare("told as it is", BEFORE, Call.read(text));
        }
        Call mayNotBe = Call.read("lift(4)");
        Check.due("HEAT 35: lift(4)", mayNotBe.on(Twins.after(BEFORE)), 0);
        Twins.compare("not lifted", BEFORE, mayNotBe);
        Call walked = Call.read("walked(7, 9)");
        Twins.alike("walked twice on one DAY", Twins.with(BEFORE, walked, walked), Twins.with(BEFORE, walked));
    }

    /** Behind each call that tells something: the questions that it answers anew, and those that it may. */
    private static void toldChangesThatAlone() {
        String rulesToo = "day due force lift look lost overdue slow";
        changes("day(2, 0, 99)", "dayOf span", rulesToo);
        changes("day(1000, 1, 3)", "day dayOf", "");
        changes("growth(0, 50)", "growth span", rulesToo);
        changes("defect(7, 9, 0, 1, 99, 0)", "count defect force risk span walks", "due look");
        changes("defect(7, 9, 0, 3, 9, 0)", "count defect lot risk span walks", "due force look sure worst");
        changes("look(2, 5, 0)", "count span", "due force");
        changes("rule(0, 5, 2, 3, 9)", "count rule force", rulesToo);
        changes("close(2, 2)", "count due force look risk span walks", "");
        changes("close(2, 3)", "count due force heat lift look rail risk span walks", "lost slow");
        changes("slow(9, 3)", "count lift lost", "slow");
        changes("set(0, 99)", "lost set", "");
        changes("set(1, 60)", "first safe set", "");
        changes("set(2, 0)", "join joined set", "");
        changes("set(3, -20)", "heat lift set", "lost slow");
        changes("train(700, 3)", "count first safe train", "");
        changes("walked(7, 9)", "risk walks", "");
        changes("doubles(3, 9, 9, 1)", "eyes", "doubles");
        changes("line(3, 99, 0)", "count join joined line", "");
        changes("job(9, 5, 0)", "count gangOf job plan", "");
        changes("gang(1, 14)", "gang gangOf plan", "");
        changes("rail(4, 0, 10)", "heat lift rail", "lost slow");
        changes("rail(0, 1, 2)", "lot rail", "sure worst");
    }

    private static void changes(String text, String must, String may) {
        Call call = Call.read(text);
        Check.due(text + " is refused", call.refusalIn(call.on(Twins.after(BEFORE))), 0);
        Set<String> got = Twins.differences(text, Twins.with(BEFORE, call), BEFORE).keySet();
        Check.that(text + " changes no more than " + got, got.containsAll(names(must)));
        Set<String> allowed = names(must);
        allowed.addAll(names(may));
        Check.that(text + " changes as much as " + got, allowed.containsAll(got));
    }

    private static Set<String> names(String text) {
        return text.isEmpty() ? new TreeSet<>() : new TreeSet<>(Arrays.asList(text.split(" ")));
    }

    private static void sameDays() {
        Call one = Call.read("days(1)");
        Call two = Call.read("days(2)");
        Twins.alike("days(3) and three times days(1)", Twins.with(BEFORE, Call.read("days(3)")),
                Twins.with(BEFORE, one, one, one));
        Twins.alike("days(2) and days(1) ahead of the other", Twins.with(BEFORE, two, one), Twins.with(BEFORE, one, two));
    }

    private static void sameInAnotherOrder() {
        List<Call> told = new ArrayList<>();
        for (String text : List.of("line(3, 99, 0)", "defect(3, 102, 0, 2, 50, 0)", "rail(12, 1, 3)", "job(6, 6, 2)",
                "train(900, 4)", "doubles(8, 1, 2, 3)", "slow(8, 7)", "walked(11, 13)", "set(2, 90)", "day(3, 0, 88)")) {
            told.add(Call.read(text));
        }
        List<Call> back = new ArrayList<>(told);
        Collections.reverse(back);
        Twins.alike("told in another order", Twins.with(BEFORE, told.toArray(new Call[0])),
                Twins.with(BEFORE, back.toArray(new Call[0])));
    }

    private static void asDaysPass() {
        Edge.holds("GROWTH and what is told of a DAY count as the DAY passes", """
                defect(0, 0, 0, 0, 0, 0) = 0
                day(0, 0, 40)
                growth(0, 50) = 10
                days(1)
                span(0, 1) = 21          # 2000
                growth(0, 0) = 50
                span(0, 1) = 21          # DAY 0 has passed with 50
                day(1, 0, 99)
                days(1)
                span(0, 1) = 22
                growth(0, 1) = 0
                day(2, 0, 99)
                day(2, 0, 10) = 99
                days(1)
                span(0, 1) = 23          # 10: the last that was told of DAY 2
                """);
        Edge.holds("RULES, WARMTH and TRAINS that are told later count for what was told ahead of them", """
                defect(0, 0, 0, 2, 5, 0) = 0
                slow(0, 2) = 1
                days(1)
                lost() = 20
                rule(2, 5, 1, 1, 3) = 0
                force(0) = 0
                lift(0) = 0
                set(0, 50) = 10
                days(1)
                lost() = 120
                close(0, 2) = 1
                set(3, 31) = 10
                lift(0) = 0
                set(3, 30) = 31
                lift(0) = 1
                """);
    }
}
