/** Promises 33 to 38: rails, heat, lots, the worst lot, count. */
public final class RailsTest {
    public static void main(String[] args) {
        rail();
        heat();
        lot();
        worst();
        worstOfSeveral();
        sure();
        count();
        Check.end("RailsTest");
    }

    private static void rail() {
        LineWalkers x = new LineWalkers();
        Check.due("warmth at first", x.rail(0, 0, -30), 10);
        Check.due("warmth", x.rail(0, 0, 50), -30);
        Check.due("warmth", x.rail(0, 0, -1), 50);
        Check.due("an answer below 0", x.rail(0, 0, 0), -1);
        Check.due("lot at first", x.rail(19, 1, 5), 0);
        Check.due("lot", x.rail(19, 1, 0), 5);
        Check.refusedAsTold(x, "mile 20", -1, () -> x.rail(20, 2, 0));
        Check.refusedAsTold(x, "mile -1", -1, () -> x.rail(-1, 0, 51));
        Check.refusedAsTold(x, "what 2", -2, () -> x.rail(0, 2, -31));
        Check.refusedAsTold(x, "what -1", -2, () -> x.rail(0, -1, 51));
        Check.refusedAsTold(x, "warmth -31", -4, () -> x.rail(0, 0, -31));
        Check.refusedAsTold(x, "warmth 51", -6, () -> x.rail(0, 0, 51));
        Check.refusedAsTold(x, "lot -1", -4, () -> x.rail(0, 1, -1));
        Check.refusedAsTold(x, "lot 6", -6, () -> x.rail(0, 1, 6));
    }

    private static void heat() {
        LineWalkers x = new LineWalkers();
        x.rail(3, 0, 25);
        Check.due("below", x.heat(3), 15);
        x.set(3, 50);
        Check.due("above", x.heat(3), 25);
        Check.due("another mile", x.heat(4), 40);
        x.rail(3, 0, -30);
        Check.due("the greatest", x.heat(3), 80);
        Check.refused(x, "mile 20", -1, () -> x.heat(20));
        Check.refused(x, "mile -1", -1, () -> x.heat(-1));
    }

    private static void lot() {
        LineWalkers x = new LineWalkers();
        Check.due("all miles", x.lot(0, 1), 20);
        Check.due("no mile", x.lot(5, 1), 0);
        x.defect(2, 0, 0, 3, 1, 1);
        x.rail(2, 1, 5);
        x.defect(2, 0, 0, 3, 1, 1);
        x.defect(2, 0, 0, 2, 1, 1);
        x.look(1, 1, 1);
        Check.due("as they were told", x.lot(0, 0), 1);
        Check.due("as they were told", x.lot(5, 0), 1);
        Check.due("miles", x.lot(0, 1), 19);
        Check.due("miles", x.lot(5, 1), 1);
        x.close(1, 3);
        Check.due("closed ones count", x.lot(5, 0), 1);
        Check.refused(x, "lot 6", -1, () -> x.lot(6, 2));
        Check.refused(x, "lot -1", -1, () -> x.lot(-1, 0));
        Check.refused(x, "what 2", -2, () -> x.lot(0, 2));
        Check.refused(x, "what -1", -2, () -> x.lot(0, -1));
    }

    private static void worst() {
        LineWalkers x = new LineWalkers();
        x.rail(7, 1, 4);
        x.defect(7, 0, 0, 3, 1, 1);
        Check.due("lot 4", x.worst(), 4);
        x.rail(7, 1, 3);
        Check.due("lot 4 has no miles", x.worst(), -9);
        Check.due("none is beyond doubt", x.sure(), 0);
        x.defect(0, 0, 0, 2, 1, 1);
        Check.due("no crack", x.worst(), -9);
        x.defect(0, 0, 0, 3, 1, 1);
        Check.due("lot 0", x.worst(), 0);
        x.rail(0, 1, 4);
        Check.due("lot 4 again: 1 by 1", x.worst(), 4);
    }

    private static void worstOfSeveral() {
        LineWalkers x = new LineWalkers();
        x.rail(1, 1, 3);
        x.rail(2, 1, 3);
        x.rail(3, 1, 2);
        x.defect(1, 0, 0, 3, 1, 1);
        Check.due("1 by 2", x.worst(), 3);
        x.defect(3, 0, 0, 3, 1, 1);
        Check.due("1 by 1", x.worst(), 2);
        x.defect(2, 0, 0, 3, 1, 1);
        Check.due("2 by 2 and 1 by 1: the least", x.worst(), 2);
        x.defect(2, 0, 0, 3, 1, 1);
        Check.due("3 by 2", x.worst(), 3);
    }

    private static void sure() {
        LineWalkers x = new LineWalkers();
        Check.due("no cracks", x.sure(), 0);
        x.rail(0, 1, 1);
        x.rail(1, 1, 2);
        x.defect(0, 0, 0, 3, 1, 1);
        Check.due("1 and 0", x.sure(), 1);
        x.defect(1, 0, 0, 3, 1, 1);
        Check.due("1 and 1", x.sure(), 0);
        x.defect(1, 0, 0, 3, 1, 1);
        Check.due("1 and 2: just twice", x.sure(), 0);
        x.defect(1, 0, 0, 3, 1, 1);
        Check.due("1 and 3", x.sure(), 1);
        x.rail(2, 1, 2);
        Check.due("1 and 3 by 2", x.sure(), 0);
        x.rail(0, 1, 2);
        Check.due("a lot without miles doesn't count", x.sure(), 1);
        x.rail(4, 1, 5);
        x.defect(4, 0, 0, 3, 1, 1);
        Check.due("lot 5, 1 by 1, and lot 2, 3 by 3", x.worst(), 2);
        Check.due("as many", x.sure(), 0);
        x.defect(4, 0, 0, 3, 1, 1);
        Check.due("lot 5, 2 by 1", x.worst(), 5);
        Check.due("just twice", x.sure(), 0);
        x.defect(4, 0, 0, 3, 1, 1);
        Check.due("lot 5, 3 by 1", x.sure(), 1);
        for (int i = 0; i < 24; i++) {
            x.defect(19, 0, 0, 3, 1, 1);
        }
        Check.due("lot 0, 24 by 16", x.worst(), 5);
        Check.due("just twice that of lot 0", x.sure(), 0);
    }

    private static void count() {
        LineWalkers x = new LineWalkers();
        x.days(4);
        x.defect(0, 0, 0, 0, 10, 0);
        x.defect(1, 0, 0, 0, 10, 0);
        x.defect(1, 0, 0, 0, 10, 0);
        x.close(1, 2);
        x.look(0, 12, 0);
        x.look(0, 10, 2);
        x.look(0, 10, 0);
        x.rule(0, 0, 4, 0, 0);
        x.slow(0, 1);
        x.slow(1, 1);
        x.lift(1);
        for (int i = 0; i < 3; i++) {
            x.train(0, 1);
            x.job(1, 1, 1);
        }
        x.line(0, 0, 0);
        x.line(0, 0, 0);
        int[] want = {4, 3, 2, 6, 2, 1, 1, 3, 2, 3, -9, 0, 0, 0, 0, 0, 0, -9};
        for (int what = 0; what < want.length; what++) {
            Check.due("count(" + what + ")", x.count(what), want[what]);
        }
        Check.due("count(-1)", x.count(-1), -9);
        Check.due("count(least int)", x.count(Integer.MIN_VALUE), -9);
        Check.due("count(greatest int)", x.count(Integer.MAX_VALUE), -9);
        x.risk(20);
        x.join(2);
        x.join(3);
        x.lift(1);
        x.days(0);
        x.days(-1);
        x.days(-2);
        x.days(2000);
        x.set(9, 0);
        int[] refusals = {1, 3, 1, 3, 0, 1};
        for (int i = 0; i < refusals.length; i++) {
            Check.due("count(" + (11 + i) + ")", x.count(11 + i), refusals[i]);
        }
    }
}
