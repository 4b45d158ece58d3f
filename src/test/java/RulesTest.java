/** Promises 8 to 16: rules, what is in force and due, closing, slow orders, settings. */
public final class RulesTest {
    public static void main(String[] args) {
        rule();
        rulesHaveAnEnd();
        force();
        forceByDayAndNumber();
        forceIsOfTheGreatestOfTheSpan();
        due();
        dueSinceTheFirstLook();
        dueAfterAnotherRuleWasNoted();
        dueOfEachDefectIsItsOwn();
        overdue();
        close();
        slow();
        lift();
        liftByHeat();
        lost();
        set();
        Check.end("RulesTest");
    }

    private static void rule() {
        LineWalkers x = new LineWalkers();
        Check.due("rule", x.rule(0, 0, 0, 0, 0), 0);
        Check.due("rule", x.rule(3, 999, 1000, 3, 60), 1);
        x.days(2);
        Check.refused(x, "kind 4", -1, () -> x.rule(4, -1, 0, 4, -1));
        Check.refused(x, "kind -1", -1, () -> x.rule(-1, 0, 2, 0, 0));
        Check.refused(x, "act 4", -2, () -> x.rule(0, -1, 0, 4, 61));
        Check.refused(x, "act -1", -2, () -> x.rule(0, 0, 2, -1, 0));
        Check.refused(x, "size -1", -4, () -> x.rule(0, -1, 2, 0, 61));
        Check.refused(x, "a day ahead of now", -4, () -> x.rule(0, 1000, 1, 0, 0));
        Check.refused(x, "within -1", -4, () -> x.rule(0, 0, 1001, 0, -1));
        Check.refused(x, "size 1000", -6, () -> x.rule(0, 1000, 2, 0, 0));
        Check.refused(x, "within 61", -6, () -> x.rule(0, 0, 2, 0, 61));
        Check.refused(x, "day 1001", -6, () -> x.rule(0, 0, 1001, 0, 0));
        Check.due("from now on", x.rule(0, 0, 2, 0, 0), 2);
    }

    private static void rulesHaveAnEnd() {
        LineWalkers x = new LineWalkers();
        for (int i = 0; i < 30; i++) {
            Check.due("rule", x.rule(0, i, 0, 0, 0), i);
        }
        Check.refused(x, "rule 31", -6, () -> x.rule(0, 0, 0, 0, 0));
        Check.refused(x, "below goes before", -4, () -> x.rule(0, 0, 0, 0, -1));
    }

    private static void force() {
        LineWalkers x = new LineWalkers();
        x.defect(0, 0, 0, 1, 20, 5);
        Check.due("no rule", x.force(0), -9);
        x.rule(2, 0, 0, 1, 1);
        Check.due("a rule of another kind", x.force(0), -9);
        x.rule(1, 26, 0, 1, 1);
        Check.due("a rule above the span", x.force(0), -9);
        x.rule(1, 25, 0, 1, 1);
        Check.due("a rule from its greatest on", x.force(0), 2);
        x.rule(1, 3, 0, 1, 1);
        Check.due("a lesser size", x.force(0), 2);
        x.rule(1, 26, 5, 1, 1);
        Check.refused(x, "no defect", -1, () -> x.force(1));
        Check.refused(x, "defect -1", -1, () -> x.force(-1));
        x.close(0, 2);
        Check.refused(x, "closed", -3, () -> x.force(0));
    }

    private static void forceByDayAndNumber() {
        LineWalkers x = new LineWalkers();
        x.defect(0, 0, 0, 1, 20, 5);
        x.rule(1, 20, 2, 0, 1);
        x.rule(1, 20, 3, 0, 1);
        x.rule(1, 20, 3, 0, 1);
        x.rule(1, 20, 0, 0, 1);
        x.rule(1, 21, 4, 0, 1);
        Check.due("day 0", x.force(0), 3);
        x.days(1);
        Check.due("day 1", x.force(0), 3);
        x.days(1);
        Check.due("day 2: the latest day", x.force(0), 0);
        x.days(1);
        Check.due("day 3: the greatest number", x.force(0), 2);
        x.days(1);
        Check.due("day 4: the greatest size", x.force(0), 4);
    }

    private static void forceIsOfTheGreatestOfTheSpan() {
        LineWalkers x = new LineWalkers();
        x.rule(0, 10, 0, 0, 1);
        x.rule(0, 14, 0, 1, 1);
        x.defect(0, 0, 0, 0, 5, 5);
        Check.due("at 10", x.force(0), 0);
        x.days(1);
        Check.due("at 14", x.force(0), 1);
        x.look(0, 3, 2);
        Check.due("at 5", x.force(0), -9);
    }

    private static void due() {
        LineWalkers x = new LineWalkers();
        x.days(3);
        x.defect(0, 0, 0, 0, 10, 0);
        Check.due("no rule", x.due(0), -9);
        x.rule(0, 5, 3, 0, 7);
        Check.due("since now", x.due(0), 10);
        x.days(1);
        Check.due("no look has noted it: since now", x.due(0), 11);
        x.look(0, 12, 3);
        x.days(2);
        Check.due("since the look", x.due(0), 11);
        x.look(0, 14, 3);
        Check.due("since the first of two", x.due(0), 11);
        Check.refused(x, "no defect", -1, () -> x.due(1));
        Check.refused(x, "defect -1", -1, () -> x.due(-1));
        x.close(0, 3);
        Check.refused(x, "closed", -3, () -> x.due(0));
    }

    private static void dueSinceTheFirstLook() {
        LineWalkers x = new LineWalkers();
        x.rule(0, 5, 0, 0, 7);
        x.days(4);
        x.defect(0, 0, 0, 0, 10, 0);
        x.days(2);
        Check.due("since day 4", x.due(0), 11);
        Check.due("not yet overdue", x.overdue(), 0);
        x.rule(0, 5, 6, 0, 60);
        Check.due("another rule since now", x.due(0), 66);
    }

    private static void dueAfterAnotherRuleWasNoted() {
        LineWalkers x = new LineWalkers();
        x.rule(0, 5, 0, 0, 10);
        x.rule(0, 20, 0, 0, 2);
        x.defect(0, 0, 0, 0, 10, 0);
        x.days(1);
        x.look(0, 10, 0);
        Check.due("since day 0", x.due(0), 10);
        x.days(1);
        x.look(0, 30, 0);
        Check.due("rule 1 since day 2", x.due(0), 4);
        x.days(1);
        x.look(0, 10, 0);
        Check.due("rule 0 anew since day 3", x.due(0), 13);
        x.days(1);
        x.look(0, 0, 0);
        Check.due("none", x.due(0), -9);
        x.days(1);
        x.look(0, 10, 0);
        x.days(1);
        Check.due("rule 0 anew since day 5", x.due(0), 15);
        x.days(2);
        Check.due("rule 1 by growth since now", x.due(0), 10);
    }

    private static void dueOfEachDefectIsItsOwn() {
        LineWalkers x = new LineWalkers();
        x.rule(0, 5, 0, 0, 10);
        x.defect(0, 0, 0, 0, 10, 0);
        x.days(1);
        x.defect(0, 0, 0, 0, 1, 0);
        x.days(1);
        x.look(0, 12, 3);
        Check.due("looks at another don't bear on it", x.due(0), 10);
        Check.due("by growth since now", x.due(1), 12);
    }

    private static void overdue() {
        LineWalkers x = new LineWalkers();
        x.rule(0, 5, 0, 0, 2);
        x.rule(1, 5, 0, 0, 0);
        x.defect(0, 0, 0, 0, 10, 0);
        x.defect(0, 0, 0, 1, 10, 0);
        x.defect(0, 0, 0, 2, 10, 0);
        Check.due("due on day 0 is not overdue", x.overdue(), 0);
        x.days(1);
        Check.due("within 0", x.overdue(), 1);
        x.days(1);
        Check.due("due on day 2", x.overdue(), 1);
        x.days(1);
        Check.due("both", x.overdue(), 2);
        x.close(1, 2);
        Check.due("closed ones don't count", x.overdue(), 1);
    }

    private static void close() {
        LineWalkers x = new LineWalkers();
        for (int i = 0; i < 3; i++) {
            x.defect(i, 0, 0, 0, 10, 0);
        }
        x.set(3, 40);
        Check.due("clamp", x.close(0, 2), 1);
        Check.due("clamped: the rail stays", x.heat(0), 30);
        Check.due("change", x.close(1, 3), 1);
        Check.due("changed: laid at 40", x.heat(1), 0);
        x.set(3, 35);
        Check.due("changed: 5 off", x.heat(1), 5);
        Check.due("open", x.count(2), 1);
        Check.due("told", x.count(1), 3);
        Check.refused(x, "no defect", -1, () -> x.close(3, 1));
        Check.refused(x, "defect -1", -1, () -> x.close(-1, 2));
        Check.refused(x, "act 1", -2, () -> x.close(0, 1));
        Check.refused(x, "act 4", -2, () -> x.close(2, 4));
        Check.refused(x, "act 0", -2, () -> x.close(2, 0));
        Check.refused(x, "closed", -3, () -> x.close(0, 3));
    }

    private static void slow() {
        LineWalkers x = new LineWalkers();
        Check.due("slow", x.slow(0, 1), 1);
        Check.due("slow", x.slow(19, 30), 1);
        Check.due("standing", x.count(6), 2);
        Check.refused(x, "mile 20", -1, () -> x.slow(20, 0));
        Check.refused(x, "mile -1", -1, () -> x.slow(-1, 5));
        Check.refused(x, "there is one", -3, () -> x.slow(0, 0));
        Check.refused(x, "0 minutes", -4, () -> x.slow(1, 0));
        Check.refused(x, "31 minutes", -6, () -> x.slow(1, 31));
        Check.due("lifted", x.lift(0), 1);
        Check.due("and put on anew", x.slow(0, 2), 1);
    }

    private static void lift() {
        LineWalkers x = new LineWalkers();
        x.slow(4, 5);
        x.rule(0, 10, 0, 1, 5);
        x.rule(1, 10, 0, 0, 5);
        x.defect(4, 0, 0, 0, 10, 0);
        x.defect(4, 0, 0, 1, 10, 0);
        Check.due("a rule of act 1", x.lift(4), 0);
        Check.due("it stands", x.count(6), 1);
        x.look(0, 8, 0);
        Check.due("act 0 alone", x.lift(4), 1);
        Check.due("it is gone", x.count(6), 0);
        Check.refused(x, "there is none", -3, () -> x.lift(4));
        Check.refused(x, "mile 20", -1, () -> x.lift(20));
        Check.refused(x, "mile -1", -1, () -> x.lift(-1));
        x.slow(4, 5);
        x.look(0, 10, 0);
        x.slow(5, 5);
        Check.due("another mile", x.lift(5), 1);
        x.close(0, 2);
        Check.due("closed", x.lift(4), 1);
        for (int act = 2; act <= 3; act++) {
            x.rule(act, 0, 0, act, 5);
            x.defect(10 + act, 0, 0, act, 10, 0);
            x.slow(10 + act, 5);
            Check.due("a rule of act 2 or 3", x.lift(10 + act), 0);
        }
    }

    private static void liftByHeat() {
        LineWalkers x = new LineWalkers();
        x.slow(0, 1);
        x.slow(1, 1);
        x.set(3, 31);
        Check.due("21 above", x.lift(0), 0);
        x.set(3, 30);
        Check.due("20 above", x.lift(0), 1);
        x.set(3, -11);
        Check.due("21 below", x.lift(1), 0);
        x.set(3, -10);
        Check.due("20 below", x.lift(1), 1);
    }

    private static void lost() {
        LineWalkers x = new LineWalkers();
        x.days(2);
        x.slow(3, 4);
        Check.due("no day has passed", x.lost(), 0);
        x.days(1);
        Check.due("4 by 10", x.lost(), 40);
        x.slow(4, 30);
        x.set(0, 2);
        Check.due("trains of days that passed stay", x.lost(), 40);
        x.days(2);
        Check.due("34 by 2, twice", x.lost(), 176);
        x.lift(4);
        x.days(1);
        Check.due("4 by 2", x.lost(), 184);
        x.set(0, 0);
        x.days(1);
        Check.due("no trains", x.lost(), 184);
        x.lift(3);
        x.set(0, 99);
        x.days(5);
        Check.due("none stands", x.lost(), 184);
        x.slow(0, 1);
        x.slow(19, 1);
        x.days(1);
        Check.due("the first and the last mile", x.lost(), 382);
    }

    private static void set() {
        LineWalkers x = new LineWalkers();
        int[] at = {10, 30, 40, 10};
        int[] least = {0, 10, 0, -30};
        int[] most = {99, 60, 200, 50};
        for (int what = 0; what < 4; what++) {
            int w = what;
            Check.due("at first", x.set(what, least[what]), at[what]);
            Check.due("the least", x.set(what, most[what]), least[what]);
            Check.refusedAsTold(x, "below", -4, () -> x.set(w, least[w] - 1));
            Check.refusedAsTold(x, "above", -6, () -> x.set(w, most[w] + 1));
            Check.due("the greatest", x.set(what, at[what]), most[what]);
        }
        Check.refusedAsTold(x, "what -1", -2, () -> x.set(-1, -31));
        Check.refusedAsTold(x, "what 4", -2, () -> x.set(4, 1000));
    }
}
