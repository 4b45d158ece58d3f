/** Promises 18 to 25: trains, safe walks, walked miles and their risk, best walks, doubles and eyes. */
public final class WalksTest {
    public static void main(String[] args) {
        train();
        safe();
        safeBeyondTheDay();
        first();
        firstByEveryMinute();
        walked();
        risk();
        walks();
        walksOfSeveral();
        doubles();
        eyes();
        Check.end("WalksTest");
    }

    private static void train() {
        LineWalkers x = new LineWalkers();
        Check.due("first", x.train(0, 1), 0);
        Check.due("last of all", x.train(1439, 9), 1);
        Check.refused(x, "start -1", -4, () -> x.train(-1, 10));
        Check.refused(x, "pace 0", -4, () -> x.train(1440, 0));
        Check.refused(x, "start 1440", -6, () -> x.train(1440, 1));
        Check.refused(x, "pace 10", -6, () -> x.train(0, 10));
        for (int i = 2; i < 24; i++) {
            Check.due("train", x.train(i, 1), i);
        }
        Check.refused(x, "train 25", -6, () -> x.train(0, 1));
        Check.refused(x, "below goes before", -4, () -> x.train(0, 0));
    }

    private static void safe() {
        LineWalkers x = new LineWalkers();
        Check.due("no trains", x.safe(0, 19, 0), 1);
        x.train(500, 3);
        // in mile 4 the train passes at 512
        Check.due("alone, 5 behind", x.safe(4, 4, 478), 0);
        Check.due("alone, 6 behind", x.safe(4, 4, 477), 1);
        Check.due("alone, 5 ahead", x.safe(4, 4, 517), 0);
        Check.due("alone, 6 ahead", x.safe(4, 4, 518), 1);
        // a walk from mile 2 on is in mile 4 from 60 minutes on
        Check.due("third mile, 6 behind", x.safe(2, 4, 417), 1);
        Check.due("third mile, 5 behind", x.safe(2, 4, 418), 0);
        Check.due("first mile behind the train, 5 ahead", x.safe(2, 4, 511), 0);
        Check.due("first mile behind the train, 6 ahead", x.safe(2, 4, 512), 1);
        x.set(1, 10);
        Check.due("by ten minutes a mile", x.safe(2, 4, 477), 1);
        Check.due("by ten minutes a mile", x.safe(2, 4, 478), 0);
        Check.due("a mile alone", x.safe(5, 5, 520), 0);
        Check.due("a mile alone", x.safe(5, 5, 521), 1);
        Check.refused(x, "mile -1", -1, () -> x.safe(-1, 0, -1));
        Check.refused(x, "mile 20", -1, () -> x.safe(0, 20, 1440));
        Check.refused(x, "a above b", -1, () -> x.safe(2, 1, -1));
        Check.refused(x, "a 20", -1, () -> x.safe(20, 20, 0));
        Check.refused(x, "minute -1", -4, () -> x.safe(1, 1, -1));
        Check.refused(x, "minute 1440", -6, () -> x.safe(1, 1, 1440));
    }

    private static void safeBeyondTheDay() {
        LineWalkers x = new LineWalkers();
        x.train(1439, 9);
        // in mile 19 it passes at 1610
        x.set(1, 60);
        Check.due("beyond 1439, met", x.safe(16, 19, 1439 - 9), 0);
        Check.due("beyond 1439, in mile 0 at 1439", x.safe(0, 0, 1385), 0);
        Check.due("beyond 1439, not yet", x.safe(0, 0, 1374), 1);
        Check.due("trains don't come again next day", x.safe(0, 19, 0), 1);
        x.train(0, 1);
        Check.due("minute 0", x.safe(0, 0, 5), 0);
        Check.due("minute 6", x.safe(0, 0, 6), 1);
    }

    private static void first() {
        LineWalkers x = new LineWalkers();
        Check.due("no trains", x.first(0, 0, 0), 0);
        Check.due("last minute 1439", x.first(0, 0, 1410), 1410);
        Check.due("last minute 1440", x.first(0, 0, 1411), -9);
        Check.due("from the last minute on", x.first(0, 0, 1439), -9);
        x.train(1000, 1);
        Check.due("safe at once", x.first(0, 0, 965), 965);
        Check.due("behind the train", x.first(0, 0, 966), 1006);
        x.train(1041, 1);
        Check.due("no room between", x.first(0, 0, 966), 1006);
        x.train(1040, 1);
        Check.due("no room between two", x.first(0, 0, 966), 1047);
        x.train(1400, 1);
        Check.due("none is left", x.first(0, 0, 1380), 1406);
        x.train(1415, 1);
        Check.due("none is left", x.first(0, 0, 1380), -9);
        x.set(1, 10);
        Check.due("shorter steps", x.first(0, 0, 1380), 1380);
        Check.due("shorter steps", x.first(0, 0, 1386), 1421);
        Check.refused(x, "mile -1", -1, () -> x.first(-1, 0, -1));
        Check.refused(x, "mile 20", -1, () -> x.first(0, 20, 0));
        Check.refused(x, "a above b", -1, () -> x.first(2, 1, 1440));
        Check.refused(x, "minute -1", -4, () -> x.first(1, 1, -1));
        Check.refused(x, "minute 1440", -6, () -> x.first(1, 1, 1440));
    }

    private static void firstByEveryMinute() {
        LineWalkers x = busyLine();
        for (int b = 0; b < 20; b++) {
            int want = -9;
            for (int minute = 1439; minute >= 0; minute--) {
                if (minute % 200 == 0) {
                    x = busyLine();
                }
                boolean ends = minute + (b - b / 2 + 1) * 10 - 1 <= 1439;
                if (ends && x.safe(b / 2, b, minute) == 1) {
                    want = minute;
                }
                Check.due("first(" + b / 2 + ", " + b + ", " + minute + ")", x.first(b / 2, b, minute), want);
            }
        }
    }

    /** Made anew now and then: an object is used for at most 512 calls. */
    private static LineWalkers busyLine() {
        LineWalkers x = new LineWalkers();
        for (int i = 0; i < 24; i++) {
            x.train(i * 57 % 1400, 1 + i % 9);
        }
        x.set(1, 10);
        return x;
    }

    private static void walked() {
        LineWalkers x = new LineWalkers();
        x.days(5);
        Check.due("one", x.walked(3, 3), 1);
        Check.due("all", x.walked(0, 19), 20);
        x.days(2);
        Check.due("some", x.walked(4, 6), 3);
        Check.due("at its edge", x.risk(4), 0);
        Check.due("at its edge", x.risk(6), 0);
        Check.due("below", x.risk(3), 2);
        Check.due("above", x.risk(7), 2);
        Check.refused(x, "mile -1", -1, () -> x.walked(-1, 3));
        Check.refused(x, "mile 20", -1, () -> x.walked(3, 20));
        Check.refused(x, "a above b", -1, () -> x.walked(4, 3));
    }

    private static void risk() {
        LineWalkers x = new LineWalkers();
        x.days(7);
        Check.due("since day 0", x.risk(2), 7);
        x.defect(2, 0, 0, 0, 1, 1);
        x.defect(2, 0, 0, 0, 1, 1);
        x.defect(3, 0, 0, 0, 1, 1);
        Check.due("two open", x.risk(2), 21);
        x.close(0, 2);
        Check.due("one open", x.risk(2), 14);
        x.walked(2, 2);
        Check.due("walked", x.risk(2), 0);
        Check.refused(x, "mile -1", -1, () -> x.risk(-1));
        Check.refused(x, "mile 20", -1, () -> x.risk(20));
    }

    private static void walks() {
        LineWalkers x = new LineWalkers();
        Check.due("no risk", x.walks(3, 0), 0);
        Check.due("no risk: the least", x.walks(3, 1), 0);
        Check.due("no risk: the least", x.walks(3, 2), 3);
        x.days(4);
        x.walked(0, 19);
        x.days(1);
        x.defect(7, 0, 0, 0, 1, 1);
        x.defect(9, 0, 0, 0, 1, 1);
        x.defect(9, 0, 0, 0, 1, 1);
        Check.due("one mile each", x.walks(1, 0), 5);
        Check.due("one mile each", x.walks(1, 1), 7);
        Check.due("one mile each", x.walks(1, 2), 9);
        Check.due("three miles: all of them in one", x.walks(3, 0), 9);
        Check.due("three miles", x.walks(3, 1), 0);
        Check.due("three miles", x.walks(3, 2), 7);
        Check.due("ten miles", x.walks(10, 0), 23);
        Check.due("ten miles", x.walks(10, 1), 0);
        Check.due("ten miles", x.walks(10, 2), 10);
        Check.refused(x, "what 3", -2, () -> x.walks(0, 3));
        Check.refused(x, "what -1", -2, () -> x.walks(11, -1));
        Check.refused(x, "n 0", -4, () -> x.walks(0, 0));
        Check.refused(x, "n 11", -6, () -> x.walks(11, 2));
    }

    private static void walksOfSeveral() {
        LineWalkers x = new LineWalkers();
        x.days(1);
        x.defect(19, 0, 0, 0, 1, 1);
        Check.due("the last mile", x.walks(2, 1), 0);
        Check.due("the last mile", x.walks(2, 2), 18);
        x.defect(10, 0, 0, 0, 1, 1);
        Check.due("the least first of the first", x.walks(2, 1), 9);
        Check.due("the second", x.walks(2, 2), 18);
        x.close(0, 2);
        Check.due("the least second", x.walks(2, 1), 0);
        Check.due("the least second", x.walks(2, 2), 9);
    }

    private static void doubles() {
        LineWalkers x = new LineWalkers();
        Check.due("none", x.doubles(0, 0, 0, 0), 1);
        Check.due("all", x.doubles(19, 99, 99, 99), 1);
        Check.refused(x, "mile 20", -1, () -> x.doubles(20, -1, 0, 0));
        Check.refused(x, "mile -1", -1, () -> x.doubles(-1, 100, 0, 0));
        Check.refused(x, "first -1", -4, () -> x.doubles(0, -1, 100, 0));
        Check.refused(x, "second -1", -4, () -> x.doubles(0, 0, -1, 100));
        Check.refused(x, "both -1", -4, () -> x.doubles(0, 100, 0, -1));
        Check.refused(x, "first 100", -6, () -> x.doubles(0, 100, 0, 0));
        Check.refused(x, "second 100", -6, () -> x.doubles(0, 0, 100, 0));
        Check.refused(x, "both 100", -6, () -> x.doubles(0, 0, 0, 100));
        Check.refused(x, "a sum of first", -6, () -> x.doubles(19, 1, 0, 0));
        Check.refused(x, "a sum of second", -6, () -> x.doubles(19, 0, 1, 0));
        Check.refused(x, "a sum of both", -6, () -> x.doubles(19, 0, 0, 1));
        Check.refused(x, "a sum that wraps", -6, () -> x.doubles(19, Integer.MAX_VALUE, 0, 0));
        Check.refused(x, "a sum that wraps", -6, () -> x.doubles(19, 0, Integer.MAX_VALUE, 0));
        Check.refused(x, "a sum that wraps", -6, () -> x.doubles(19, 0, 0, Integer.MAX_VALUE));
        Check.due("nothing more", x.doubles(19, 0, 0, 0), 1);
    }

    private static void eyes() {
        LineWalkers x = new LineWalkers();
        x.doubles(0, 5, 5, 0);
        Check.due("without both", x.eyes(0, 0), -9);
        Check.due("without both", x.eyes(0, 1), -9);
        x.doubles(0, 0, 0, 5);
        Check.due("10 by 10 by 5", x.eyes(0, 0), 20);
        Check.due("less 15", x.eyes(0, 1), 5);
        x.doubles(0, 1, 0, 2);
        Check.due("13 by 12 by 7: 22.3", x.eyes(0, 0), 23);
        Check.due("less 18", x.eyes(0, 1), 5);
        x.doubles(1, 0, 0, 9);
        Check.due("both alone", x.eyes(1, 0), 9);
        Check.due("none missed", x.eyes(1, 1), 0);
        x.doubles(2, 99, 99, 1);
        Check.due("100 by 100 by 1", x.eyes(2, 0), 10000);
        Check.due("less 199", x.eyes(2, 1), 9801);
        Check.refused(x, "mile 20", -1, () -> x.eyes(20, 2));
        Check.refused(x, "mile -1", -1, () -> x.eyes(-1, 0));
        Check.refused(x, "what 2", -2, () -> x.eyes(0, 2));
        Check.refused(x, "what -1", -2, () -> x.eyes(3, -1));
    }
}
