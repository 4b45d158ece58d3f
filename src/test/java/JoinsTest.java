/** Promises 26 to 28: lines that a car measured, joined to defects. */
public final class JoinsTest {
    public static void main(String[] args) {
        line();
        pairs();
        mostGoBeforeYards();
        leastDefectOfSeveral();
        eachIsOfOneAtMost();
        firstTwelveOpen();
        manyOfAll();
        refusals();
        Check.end("JoinsTest");
    }

    private static void line() {
        LineWalkers x = new LineWalkers();
        Check.due("first", x.line(0, 0, 0), 0);
        Check.due("last of all", x.line(19, 1759, 1), 1);
        Check.refused(x, "mile 20", -1, () -> x.line(20, -1, 0));
        Check.refused(x, "mile -1", -1, () -> x.line(-1, 1760, 0));
        Check.refused(x, "yard -1", -4, () -> x.line(0, -1, 2));
        Check.refused(x, "side -1", -4, () -> x.line(0, 1760, -1));
        Check.refused(x, "yard 1760", -6, () -> x.line(0, 1760, 0));
        Check.refused(x, "side 2", -6, () -> x.line(0, 0, 2));
        for (int i = 2; i < 8; i++) {
            Check.due("line", x.line(5, i, 0), i);
        }
        Check.refused(x, "line 9", -6, () -> x.line(0, 0, 0));
        Check.refused(x, "below goes before", -4, () -> x.line(0, -1, 0));
    }

    private static void pairs() {
        LineWalkers x = new LineWalkers();
        x.defect(3, 500, 1, 0, 1, 1);
        x.line(3, 540, 1);
        Check.due("40 yards", x.joined(0), 0);
        Check.due("40 yards", x.join(1), 40);
        x.set(2, 39);
        Check.due("39 yards", x.joined(0), -9);
        Check.due("39 yards", x.join(0), 0);
        Check.due("no yards", x.join(1), 0);
        x.set(2, 200);
        x.line(2, 500, 1);
        x.line(3, 500, 0);
        x.line(3, 301, 1);
        Check.due("one of them", x.join(0), 1);
        Check.due("another mile", x.joined(1), -9);
        Check.due("another side", x.joined(2), -9);
        Check.due("farther off", x.joined(3), -9);
        x.close(0, 2);
        Check.due("closed", x.join(0), 0);
        x.set(2, 0);
        x.defect(3, 500, 0, 0, 1, 1);
        Check.due("0 yards", x.joined(2), 1);
    }

    private static void mostGoBeforeYards() {
        LineWalkers x = new LineWalkers();
        x.defect(0, 100, 0, 0, 1, 1);
        x.defect(0, 60, 0, 0, 1, 1);
        x.line(0, 99, 0);
        x.line(0, 139, 0);
        Check.due("both", x.join(0), 2);
        Check.due("by 39 and 39 yards", x.join(1), 78);
        Check.due("line 0 goes to the farther one", x.joined(0), 1);
        Check.due("line 1", x.joined(1), 0);
    }

    private static void leastDefectOfSeveral() {
        LineWalkers x = new LineWalkers();
        x.defect(0, 110, 0, 0, 1, 1);
        x.defect(0, 90, 0, 0, 1, 1);
        x.line(0, 100, 0);
        Check.due("the least defect", x.joined(0), 0);
        x.line(0, 100, 0);
        x.line(0, 100, 0);
        Check.due("two of three", x.join(0), 2);
        Check.due("line 0", x.joined(0), 0);
        Check.due("line 1", x.joined(1), 1);
        Check.due("line 2 is left", x.joined(2), -9);
    }

    private static void eachIsOfOneAtMost() {
        LineWalkers x = new LineWalkers();
        x.defect(0, 100, 0, 0, 1, 1);
        x.line(0, 101, 0);
        x.line(0, 100, 0);
        Check.due("one", x.join(0), 1);
        Check.due("no yards", x.join(1), 0);
        Check.due("line 0 is left", x.joined(0), -9);
        Check.due("line 1", x.joined(1), 0);
    }

    private static void firstTwelveOpen() {
        LineWalkers x = new LineWalkers();
        for (int i = 0; i < 14; i++) {
            x.defect(i, 100, 0, 0, 1, 1);
        }
        x.line(11, 100, 0);
        x.line(12, 100, 0);
        x.line(13, 100, 0);
        Check.due("the twelfth", x.joined(0), 11);
        Check.due("the thirteenth", x.joined(1), -9);
        x.close(5, 2);
        Check.due("the twelfth is another", x.joined(1), 12);
        Check.due("the thirteenth", x.joined(2), -9);
        x.close(0, 2);
        Check.due("all", x.join(0), 3);
        Check.due("the last", x.joined(2), 13);
    }

    private static void manyOfAll() {
        LineWalkers x = new LineWalkers();
        x.set(2, 200);
        for (int i = 0; i < 12; i++) {
            x.defect(0, 0, 0, 0, 1, 1);
        }
        for (int i = 0; i < 8; i++) {
            x.line(0, 200, 0);
        }
        Check.due("all", x.join(0), 8);
        Check.due("yards", x.join(1), 1600);
        for (int i = 0; i < 8; i++) {
            Check.due("line " + i, x.joined(i), i);
        }
    }

    private static void refusals() {
        LineWalkers x = new LineWalkers();
        Check.refused(x, "what 2", -2, () -> x.join(2));
        Check.refused(x, "what -1", -2, () -> x.join(-1));
        Check.refused(x, "no line", -1, () -> x.joined(0));
        x.line(0, 0, 0);
        Check.due("a line alone", x.joined(0), -9);
        Check.refused(x, "no line", -1, () -> x.joined(1));
        Check.refused(x, "line -1", -1, () -> x.joined(-1));
        Check.refused(x, "line 8", -1, () -> x.joined(8));
    }
}
