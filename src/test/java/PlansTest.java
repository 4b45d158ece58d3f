/** Promises 29 to 32: jobs, gangs and the best plan. */
public final class PlansTest {
    public static void main(String[] args) {
        job();
        gang();
        noJobs();
        greatestLatenessGoesBeforeTheSum();
        sumGoesBeforeTheFirst();
        firstOfSeveral();
        dueOrderIsKept();
        equalDuesByNumbers();
        tools();
        refusals();
        Check.end("PlansTest");
    }

    private static void job() {
        LineWalkers x = new LineWalkers();
        Check.due("the least", x.job(1, 0, 0), 0);
        Check.due("the greatest", x.job(40, 400, 15), 1);
        Check.refused(x, "hours 0", -4, () -> x.job(0, 401, 0));
        Check.refused(x, "due -1", -4, () -> x.job(41, -1, 0));
        Check.refused(x, "tools -1", -4, () -> x.job(1, 401, -1));
        Check.refused(x, "hours 41", -6, () -> x.job(41, 0, 0));
        Check.refused(x, "due 401", -6, () -> x.job(1, 401, 0));
        Check.refused(x, "tools 16", -6, () -> x.job(1, 0, 16));
        for (int i = 2; i < 8; i++) {
            Check.due("job", x.job(1, 400, 0), i);
        }
        Check.refused(x, "job 9", -6, () -> x.job(1, 0, 0));
        Check.refused(x, "below goes before", -4, () -> x.job(0, 0, 0));
    }

    private static void gang() {
        LineWalkers x = new LineWalkers();
        Check.due("all at first", x.gang(0, 0), 15);
        Check.due("all at first", x.gang(1, 9), 15);
        Check.due("then", x.gang(0, 15), 0);
        Check.due("then", x.gang(1, 15), 9);
        Check.refused(x, "gang 2", -1, () -> x.gang(2, -1));
        Check.refused(x, "gang -1", -1, () -> x.gang(-1, 16));
        Check.refused(x, "tools -1", -4, () -> x.gang(0, -1));
        Check.refused(x, "tools 16", -6, () -> x.gang(1, 16));
    }

    private static void noJobs() {
        LineWalkers x = new LineWalkers();
        x.gang(0, 0);
        x.gang(1, 0);
        Check.due("nothing is late", x.plan(0), 0);
        Check.due("nothing is late", x.plan(1), 0);
    }

    private static void greatestLatenessGoesBeforeTheSum() {
        LineWalkers x = new LineWalkers();
        x.job(4, 0, 0);
        x.job(3, 0, 0);
        x.job(3, 0, 0);
        Check.due("4 and 6 apart", x.plan(0), 6);
        Check.due("4 and 3 and 6", x.plan(1), 13);
        Check.due("job 0", x.gangOf(0), 0);
        Check.due("job 1", x.gangOf(1), 1);
        Check.due("job 2", x.gangOf(2), 1);
    }

    private static void sumGoesBeforeTheFirst() {
        LineWalkers x = new LineWalkers();
        x.job(10, 0, 1);
        x.job(2, 5, 0);
        x.job(5, 6, 0);
        x.gang(1, 14);
        Check.due("job 0 alone can't be earlier", x.plan(0), 10);
        Check.due("the others by gang 1: 2 and 7", x.plan(1), 11);
        Check.due("job 1", x.gangOf(1), 1);
        Check.due("job 2", x.gangOf(2), 1);
    }

    private static void firstOfSeveral() {
        LineWalkers x = new LineWalkers();
        x.job(1, 400, 0);
        x.job(1, 400, 0);
        Check.due("both by gang 0", x.gangOf(0), 0);
        Check.due("both by gang 0", x.gangOf(1), 0);
        x.job(2, 2, 0);
        x.job(2, 2, 0);
        Check.due("none late", x.plan(0), 0);
        Check.due("job 2", x.gangOf(2), 0);
        Check.due("job 3", x.gangOf(3), 1);
        Check.due("job 0 goes behind", x.gangOf(0), 0);
    }

    private static void dueOrderIsKept() {
        LineWalkers x = new LineWalkers();
        x.gang(1, 0);
        x.job(10, 50, 1);
        x.job(40, 49, 1);
        x.job(5, 52, 1);
        Check.due("40, 50, 55", x.plan(0), 3);
        Check.due("40, 50, 55", x.plan(1), 3);
        x.job(1, 0, 1);
        Check.due("1, 41, 51, 56", x.plan(0), 4);
        Check.due("1, 41, 51, 56", x.plan(1), 6);
    }

    private static void equalDuesByNumbers() {
        LineWalkers x = new LineWalkers();
        x.gang(0, 0);
        x.job(9, 3, 1);
        x.job(1, 3, 1);
        Check.due("9, 10", x.plan(0), 7);
        Check.due("9, 10", x.plan(1), 13);
        Check.due("gang 1", x.gangOf(0), 1);
    }

    private static void tools() {
        LineWalkers x = new LineWalkers();
        x.job(1, 400, 3);
        x.job(1, 400, 0);
        x.gang(0, 1);
        x.gang(1, 2);
        Check.due("none has both", x.plan(0), -9);
        Check.due("none has both", x.plan(1), -9);
        Check.due("no plan for the other one either", x.gangOf(1), -9);
        x.gang(1, 3);
        Check.due("gang 1 has", x.plan(0), 0);
        Check.due("gang 1 has", x.gangOf(0), 1);
        Check.due("without tools", x.gangOf(1), 0);
        x.gang(0, 11);
        Check.due("more tools are fine", x.gangOf(0), 0);
    }

    private static void refusals() {
        LineWalkers x = new LineWalkers();
        Check.refused(x, "what 2", -2, () -> x.plan(2));
        Check.refused(x, "what -1", -2, () -> x.plan(-1));
        Check.refused(x, "no job", -1, () -> x.gangOf(0));
        x.job(1, 0, 0);
        Check.due("job 0", x.gangOf(0), 0);
        Check.refused(x, "no job", -1, () -> x.gangOf(1));
        Check.refused(x, "job -1", -1, () -> x.gangOf(-1));
    }
}
