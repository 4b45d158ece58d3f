/** The boundaries of part III of the document, promises 18 to 28, a sentence each. */
public final class WalksEdgesTest {
    public static void main(String[] args) {
        trains();
        trainsBeyondTheDay();
        safe();
        steps();
        safeRefusals();
        first();
        walkedAndRisk();
        bestWalks();
        doubles();
        eyes();
        lines();
        pairs();
        mostThenYards();
        toldAs();
        Check.end("WalksEdgesTest");
    }

    private static void trains() {
        Edge.holds("numbers from 0 on, 24 at most", """
                23 x train(i, 1) = 0 on
                train(1439, 9) = 23
                train(0, 1) = -6
                train(0, 0) = -4
                train(-1, 10) = -4
                count(7) = 24
                """);
        Edge.holds("START 0 .. 1439, PACE 1 .. 9", """
                train(0, 1) = 0
                train(1439, 9) = 1
                train(-1, 1) = -4
                train(0, 0) = -4
                train(1440, 1) = -6
                train(0, 10) = -6
                train(MIN, 1) = -4
                train(0, MIN) = -4
                train(MAX, 1) = -6
                train(0, MAX) = -6
                train(MAX, MAX) = -6
                """);
        Edge.holds("A TRAIN: its number. -4; -6 (24, too)", """
                train(1440, 0) = -4
                train(-1, 10) = -4
                train(MAX, MIN) = -4
                train(1440, 10) = -6
                count(7) = 0
                safe(0, 19, 0) = 1
                """);
        Edge.holds("a TRAIN passes MILE m at START and PACE times m", """
                train(0, 1) = 0
                safe(0, 0, 5) = 0        # at 0
                safe(0, 0, 6) = 1
                safe(19, 19, 24) = 0     # at 19
                safe(19, 19, 25) = 1
                train(100, 9) = 1
                safe(0, 0, 105) = 0      # at 100
                safe(0, 0, 106) = 1
                safe(1, 1, 114) = 0      # at 109
                safe(1, 1, 115) = 1
                safe(19, 19, 276) = 0    # at 271
                safe(19, 19, 277) = 1
                """);
    }

    private static void trainsBeyondTheDay() {
        Edge.holds("minutes of a day, it may be beyond 1439", """
                train(1439, 9) = 0
                set(1, 10) = 30
                safe(0, 0, 1424) = 1     # to 1433, the TRAIN is at 1439
                safe(0, 0, 1425) = 0
                safe(0, 0, 1439) = 0
                safe(1, 1, 1433) = 1     # to 1442, the TRAIN is at 1448
                safe(1, 1, 1434) = 0
                safe(19, 19, 1439) = 1   # at 1610
                safe(11, 19, 0) = 1      # a TRAIN does not come again
                set(1, 60) = 10
                safe(17, 19, 1425) = 1   # in MILE 19 to 1604
                safe(17, 19, 1426) = 0   # in MILE 19 to 1605
                """);
    }

    private static void safe() {
        Edge.holds("no TRAIN passes a MILE in one of the minutes in which the walker is in it", """
                safe(0, 0, 0) = 1        # no TRAIN
                safe(0, 19, 1439) = 1
                train(600, 1) = 0
                safe(0, 0, 600) = 0
                safe(0, 0, 571) = 0
                safe(0, 0, 590) = 0
                """);
        Edge.holds("nor in the 5 ahead or the 5 behind these", """
                train(600, 1) = 0
                safe(0, 0, 605) = 0      # 5 ahead
                safe(0, 0, 606) = 1      # 6 ahead
                safe(0, 0, 566) = 0      # to 595: 5 behind
                safe(0, 0, 565) = 1      # to 594: 6 behind
                """);
        Edge.holds("5 ahead of minute 0", """
                train(0, 9) = 0
                safe(0, 0, 0) = 0
                safe(0, 0, 4) = 0
                safe(0, 0, 5) = 0
                safe(0, 0, 6) = 1
                first(0, 0, 0) = 6
                """);
        Edge.holds("each TRAIN counts, the first and the last", """
                train(100, 1) = 0
                22 x train(700, 1) = 1 on
                train(1300, 1) = 23
                safe(0, 0, 100) = 0
                safe(0, 0, 700) = 0
                safe(0, 0, 1300) = 0
                safe(0, 0, 1000) = 1
                """);
    }

    private static void steps() {
        Edge.holds("in MILE a and i from t and i STEP to STEP less 1 behind that", """
                train(600, 1) = 0
                # in MILE 2 at 602, and the walk from MILE 1 on is there from 30 to 59 minutes on
                safe(1, 2, 537) = 1      # to 596 in MILE 2: 602 is 6 behind
                safe(1, 2, 538) = 0      # to 597 in MILE 2: 602 is 5 behind
                safe(1, 2, 577) = 0      # MILE 2 from 607 on, but MILE 1 to 606
                safe(1, 2, 606) = 0      # MILE 1: 601 is 5 ahead
                safe(1, 2, 607) = 1      # MILE 1: 601 is 6 ahead
                """);
        Edge.holds("STEP minutes (10 .. 60; 30 at first) in each MILE", """
                train(600, 1) = 0
                set(1, 10) = 30
                safe(0, 0, 585) = 1      # to 594
                safe(0, 0, 586) = 0
                set(1, 60) = 10
                safe(0, 0, 535) = 1      # to 594
                safe(0, 0, 536) = 0
                set(1, 9) = 1000000004
                set(1, 61) = 1000000006
                safe(0, 0, 535) = 1
                set(1, 30) = 60
                safe(0, 0, 565) = 1
                safe(0, 0, 566) = 0
                """);
        Edge.holds("from MILE a to MILE b: the last one counts, what lies outside does not", """
                train(100, 9) = 0
                # in MILE 5 at 145, in MILE 6 at 154
                set(1, 10) = 30
                safe(4, 5, 120) = 1      # MILE 5 to 139
                safe(4, 5, 121) = 0      # MILE 5 to 140: 145 is 5 behind
                safe(4, 4, 121) = 1
                safe(4, 4, 142) = 1      # MILE 4 at 136
                safe(4, 4, 141) = 0
                safe(6, 6, 144) = 0
                safe(6, 6, 139) = 1      # to 148
                safe(0, 19, 0) = 1       # the TRAIN stays ahead
                safe(0, 19, 66) = 1      # in MILE 19 from 256 to 265: 271 is 6 behind
                safe(0, 19, 67) = 0
                """);
    }

    private static void safeRefusals() {
        Edge.holds("safe: -1 (a above b, too); -4; -6 the minute is not 0 .. 1439", """
                safe(0, 0, 0) = 1
                safe(19, 19, 1439) = 1
                safe(0, 19, 1439) = 1
                safe(-1, 0, -1) = -1
                safe(0, 20, 1440) = -1
                safe(20, 20, 0) = -1
                safe(1, 0, -1) = -1
                safe(19, 18, 1440) = -1
                safe(MIN, MAX, 0) = -1
                safe(MAX, MIN, 0) = -1
                safe(0, MAX, 0) = -1
                safe(MIN, 0, 0) = -1
                safe(0, 0, -1) = -4
                safe(0, 0, MIN) = -4
                safe(0, 0, 1440) = -6
                safe(0, 0, MAX) = -6
                safe(0, 19, MAX) = -6
                """);
        Edge.holds("first: -1; -4; -6", """
                first(0, 0, 0) = 0
                first(-1, 0, -1) = -1
                first(0, 20, 1440) = -1
                first(20, 20, 0) = -1
                first(1, 0, -1) = -1
                first(MIN, MAX, 0) = -1
                first(0, MAX, 0) = -1
                first(0, 0, -1) = -4
                first(0, 0, MIN) = -4
                first(0, 0, 1440) = -6
                first(0, 0, MAX) = -6
                first(0, 19, MAX) = -6
                first(0, 0, 1439) = -9
                """);
    }

    private static void first() {
        Edge.holds("its last minute is 1439 at most; -9 none", """
                first(0, 0, 1410) = 1410
                first(0, 0, 1411) = -9
                first(0, 19, 840) = 840
                first(0, 19, 841) = -9
                set(1, 10) = 30
                first(0, 0, 1430) = 1430
                first(0, 0, 1431) = -9
                first(0, 19, 1240) = 1240
                first(0, 19, 1241) = -9
                set(1, 60) = 10
                first(0, 19, 240) = 240
                first(0, 19, 241) = -9
                first(5, 5, 1380) = 1380
                first(5, 5, 1381) = -9
                """);
        Edge.holds("the least minute, from one on, with which it is SAFE", """
                train(600, 1) = 0
                first(0, 0, 565) = 565
                first(0, 0, 566) = 606
                first(0, 0, 605) = 606
                first(0, 0, 606) = 606
                train(641, 1) = 1
                first(0, 0, 566) = 606   # from 606 to 635: 641 is 6 behind
                first(0, 0, 607) = 647
                train(640, 1) = 2
                first(0, 0, 566) = 647
                """);
        Edge.holds("FIRST SAFE: none behind the last TRAIN", """
                train(1404, 1) = 0
                first(0, 0, 1370) = 1410
                train(1405, 1) = 1
                first(0, 0, 1369) = 1369
                first(0, 0, 1370) = -9
                """);
        Edge.holds("SAFE in one MILE may be UNSAFE in another", """
                train(600, 1) = 0
                train(650, 1) = 1
                # MILE 0 from 606 on, then MILE 1 from 636 to 665, the TRAIN at 651
                first(0, 0, 600) = 606
                first(0, 1, 600) = 656
                first(0, 1, 535) = 535   # MILE 1 to 594: 601 is 7 behind
                first(0, 1, 536) = 536
                first(0, 1, 537) = 656   # 601 is 5 behind
                """);
    }

    private static void walkedAndRisk() {
        Edge.holds("MILES a to b are WALKED now: how many. -1", """
                walked(0, 0) = 1
                walked(19, 19) = 1
                walked(0, 19) = 20
                days(4)
                walked(5, 7) = 3
                risk(4) = 4
                risk(5) = 0
                risk(7) = 0
                risk(8) = 4
                walked(-1, 3) = -1
                walked(3, 20) = -1
                walked(4, 3) = -1
                walked(20, 20) = -1
                walked(-1, -1) = -1
                walked(MIN, MAX) = -1
                walked(0, MAX) = -1
                walked(MIN, 0) = -1
                walked(MAX, MIN) = -1
                risk(0) = 4
                """);
        Edge.holds("DAYS since it was last WALKED (told as done; from DAY 0 at first)", """
                risk(0) = 0
                days(1)
                20 x risk(i) = 1
                walked(3, 3) = 1
                risk(3) = 0
                days(1)
                risk(3) = 1
                walked(3, 3) = 1
                walked(3, 3) = 1
                days(2)
                risk(3) = 2
                risk(4) = 4
                """);
        Edge.holds("times (1 and how many OPEN DEFECTS it has)", """
                40 x defect(0, 0, 0, 0, 0, 0) = 0 on
                risk(0) = 0
                days(1000)
                risk(0) = 41000
                risk(1) = 1000
                close(0, 2) = 1
                close(39, 3) = 1
                risk(0) = 39000
                """);
        Edge.holds("RISK of a MILE. -1", """
                risk(-1) = -1
                risk(20) = -1
                risk(MIN) = -1
                risk(MAX) = -1
                risk(0) = 0
                risk(19) = 0
                """);
    }

    private static void bestWalks() {
        Edge.holds("N MILES each (1 .. 10), one behind the other", """
                days(1)
                walks(1, 0) = 2
                walks(1, 1) = 0
                walks(1, 2) = 1
                walks(10, 0) = 20
                walks(10, 1) = 0
                walks(10, 2) = 10
                walks(9, 0) = 18
                walks(9, 1) = 0
                walks(9, 2) = 9
                walks(0, 0) = -4
                walks(11, 0) = -6
                walks(MIN, 0) = -4
                walks(MAX, 0) = -6
                walks(1073741824, 0) = -6    # twice it wraps around
                """);
        Edge.holds("BEST WALKS: RISK (what 0), the first MILE of the first range (1), of the second one (2). -2; -4; -6", """
                walks(0, -1) = -2
                walks(11, 3) = -2
                walks(1, 3) = -2
                walks(1, -1) = -2
                walks(1, MIN) = -2
                walks(1, MAX) = -2
                walks(0, 2) = -4
                walks(11, 2) = -6
                walks(10, 0) = 0         # no RISK yet
                walks(10, 1) = 0
                walks(10, 2) = 10
                """);
        Edge.holds("two ranges of N MILES that don't meet", """
                days(1)
                4 x defect(9, 0, 0, 0, 0, 0) = 0 on
                3 x defect(10, 0, 0, 0, 0, 0) = 4 on
                walks(1, 0) = 9
                walks(1, 1) = 9
                walks(1, 2) = 10
                walks(2, 0) = 11         # as much with both in one range as in two
                walks(2, 1) = 0
                walks(2, 2) = 9
                walks(10, 0) = 27
                """);
        Edge.holds("of several the least first MILE of the first range, then of the second one", """
                days(1)
                walks(3, 1) = 0
                walks(3, 2) = 3
                defect(19, 0, 0, 0, 0, 0) = 0
                walks(3, 0) = 7
                walks(3, 1) = 0
                walks(3, 2) = 17         # the last range of all
                defect(18, 0, 0, 0, 0, 0) = 1
                walks(1, 1) = 18
                walks(1, 2) = 19
                close(0, 2) = 1
                walks(1, 1) = 0
                walks(1, 2) = 18
                walks(3, 2) = 16         # the least that holds MILE 18
                """);
        Edge.holds("the first range lies below", """
                walked(0, 19) = 20
                days(1)
                defect(0, 0, 0, 0, 0, 0) = 0
                2 x defect(12, 0, 0, 0, 0, 0) = 1 on
                walks(1, 0) = 5
                walks(1, 1) = 0          # though the second one has more RISK
                walks(1, 2) = 12
                """);
    }

    private static void doubles() {
        Edge.holds("FOUND by the first alone, the second alone, both (0 .. 99 each; added to what was told)", """
                doubles(0, 0, 0, 0) = 1
                doubles(19, 99, 99, 99) = 1
                doubles(0, -1, 0, 0) = -4
                doubles(0, 0, -1, 0) = -4
                doubles(0, 0, 0, -1) = -4
                doubles(0, 100, 0, 0) = -6
                doubles(0, 0, 100, 0) = -6
                doubles(0, 0, 0, 100) = -6
                doubles(0, 99, 98, 97) = 1
                doubles(0, 0, 1, 2) = 1
                doubles(0, 0, 0, 0) = 1
                doubles(0, 1, 0, 0) = -6
                doubles(0, 0, 1, 0) = -6
                doubles(0, 0, 0, 1) = -6
                eyes(0, 0) = 396         # 198 by 198 by 99
                eyes(0, 1) = 99
                """);
        Edge.holds("-6 (a sum above 99, too): all of it or nothing", """
                doubles(1, 50, 50, 50) = 1
                doubles(1, 49, 49, 50) = -6
                doubles(1, 49, 50, 49) = -6
                doubles(1, 50, 49, 49) = -6
                eyes(1, 0) = 200
                doubles(1, 49, 49, 49) = 1
                doubles(2, 49, 49, 49) = 1   # another MILE
                """);
        Edge.holds("sums that would wrap around", """
                doubles(0, 99, 99, 99) = 1
                doubles(0, MAX, 0, 0) = -6
                doubles(0, 0, MAX, 0) = -6
                doubles(0, 0, 0, MAX) = -6
                doubles(0, 2147483549, 0, 0) = -6    # just wraps around with 99
                doubles(0, MIN, 0, 0) = -4
                doubles(0, 0, MIN, 0) = -4
                doubles(0, 0, 0, MIN) = -4
                doubles(0, MAX, MAX, MIN) = -4
                """);
        Edge.holds("DOUBLES of a MILE: 1. -1; -4; -6", """
                doubles(-1, -1, 100, 0) = -1
                doubles(20, 100, -1, 0) = -1
                doubles(MIN, 0, 0, 0) = -1
                doubles(MAX, 0, 0, 0) = -1
                doubles(0, 100, 100, -1) = -4
                doubles(0, -1, 100, 100) = -4
                doubles(0, 100, 0, 0) = -6
                """);
    }

    private static void eyes() {
        Edge.holds("-9 without both", """
                eyes(0, 0) = -9          # no DOUBLES
                eyes(0, 1) = -9
                doubles(0, 99, 99, 0) = 1
                eyes(0, 0) = -9
                eyes(0, 1) = -9
                doubles(0, 0, 0, 1) = 1
                eyes(0, 0) = 10000       # the greatest of all
                eyes(0, 1) = 9801
                """);
        Edge.holds("(first and both) times (second and both) by both, cut up", """
                doubles(0, 1, 1, 1) = 1
                eyes(0, 0) = 4
                eyes(0, 1) = 1
                doubles(1, 1, 1, 2) = 1
                eyes(1, 0) = 5           # 9 by 2
                eyes(1, 1) = 1
                doubles(2, 2, 2, 2) = 1
                eyes(2, 0) = 8           # 16 by 2: nothing to cut
                eyes(2, 1) = 2
                doubles(3, 1, 1, 99) = 1
                eyes(3, 0) = 102         # 10000 by 99: 101 and 1 by 99
                eyes(3, 1) = 1
                doubles(4, 0, 50, 7) = 1
                eyes(4, 0) = 57
                eyes(4, 1) = 0           # nothing MISSED
                doubles(5, 50, 0, 7) = 1
                eyes(5, 1) = 0
                doubles(6, 0, 0, 1) = 1
                eyes(6, 0) = 1
                eyes(6, 1) = 0
                """);
        Edge.holds("ESTIMATE (what 0), MISSED (1) of a MILE; -9 without both. -1; -2", """
                eyes(-1, 2) = -1
                eyes(20, -1) = -1
                eyes(MIN, 0) = -1
                eyes(MAX, 0) = -1
                eyes(0, 2) = -2
                eyes(0, -1) = -2
                eyes(0, MIN) = -2
                eyes(0, MAX) = -2
                eyes(19, 0) = -9
                """);
    }

    private static void lines() {
        Edge.holds("LINES: numbers from 0 on (8 at most)", """
                7 x line(0, i, 0) = 0 on
                joined(7) = -1
                line(19, 1759, 1) = 7
                joined(7) = -9
                joined(8) = -1
                line(0, 0, 0) = -6
                line(0, -1, 0) = -4
                line(20, 0, 0) = -1
                count(8) = 8
                """);
        Edge.holds("LINES: a MILE, YARD, SIDE", """
                line(0, 0, 0) = 0
                line(19, 1759, 1) = 1
                line(-1, 0, 0) = -1
                line(20, 0, 0) = -1
                line(MIN, 0, 0) = -1
                line(MAX, 0, 0) = -1
                line(0, -1, 0) = -4
                line(0, 1760, 0) = -6
                line(0, MIN, 0) = -4
                line(0, MAX, 0) = -6
                line(0, 0, -1) = -4
                line(0, 0, 2) = -6
                line(0, 0, MIN) = -4
                line(0, 0, MAX) = -6
                """);
        Edge.holds("A LINE: its number. -1; -4; -6 (8, too)", """
                line(20, -1, 2) = -1
                line(-1, 1760, -1) = -1
                line(0, 1760, -1) = -4
                line(0, -1, 2) = -4
                line(0, 1760, 2) = -6
                count(8) = 0
                """);
        Edge.holds("How many LINES are JOINED (what 0), YARDS apart together (1). -2", """
                join(0) = 0              # no LINE, no DEFECT
                join(1) = 0
                join(-1) = -2
                join(2) = -2
                join(MIN) = -2
                join(MAX) = -2
                line(0, 0, 0) = 0
                join(0) = 0              # no DEFECT
                defect(0, 0, 0, 0, 0, 0) = 0
                join(0) = 1
                join(1) = 0
                """);
        Edge.holds("The DEFECT to which a LINE is JOINED; -9 none. -1", """
                joined(0) = -1
                defect(0, 40, 0, 0, 0, 0) = 0
                joined(0) = -1           # no LINE
                line(0, 0, 0) = 0
                joined(0) = 0
                joined(1) = -1
                joined(-1) = -1
                joined(MIN) = -1
                joined(MAX) = -1
                close(0, 2) = 1
                joined(0) = -9
                """);
    }

    private static void pairs() {
        Edge.holds("of one MILE and SIDE", """
                defect(3, 100, 0, 0, 0, 0) = 0
                line(2, 100, 0) = 0
                line(4, 100, 0) = 1
                line(3, 100, 1) = 2
                join(0) = 0
                line(3, 100, 0) = 3
                join(0) = 1
                3 x joined(i) = -9
                joined(3) = 0
                """);
        Edge.holds("no more than OFF (0 .. 200 yards; 40 at first) apart", """
                defect(3, 500, 1, 0, 0, 0) = 0
                line(3, 540, 1) = 0
                joined(0) = 0
                set(2, 39) = 40
                joined(0) = -9
                join(1) = 0
                line(3, 461, 1) = 1
                joined(1) = 0            # 39 below
                set(2, 38) = 39
                joined(1) = -9
                set(2, 0) = 38
                line(3, 500, 1) = 2
                joined(2) = 0
                line(3, 501, 1) = 3
                joined(3) = -9
                set(2, 201) = 1000000006
                set(2, -1) = 1000000004
                join(0) = 1
                """);
        Edge.holds("OFF 200", """
                set(2, 200) = 40
                defect(0, 200, 0, 0, 0, 0) = 0
                line(0, 0, 0) = 0
                joined(0) = 0
                join(1) = 200
                defect(1, 1558, 0, 0, 0, 0) = 1
                line(1, 1759, 0) = 1
                joined(1) = -9           # 201
                defect(1, 1559, 0, 0, 0, 0) = 2
                joined(1) = 2
                join(1) = 400
                """);
        Edge.holds("JOINED to OPEN DEFECTS (the first 12 that are OPEN)", """
                14 x defect(i, 0, 0, 0, 0, 0) = 0 on
                line(11, 0, 0) = 0
                line(12, 0, 0) = 1
                line(13, 0, 0) = 2
                joined(0) = 11
                joined(1) = -9
                join(0) = 1
                close(0, 2) = 1
                joined(1) = 12
                joined(2) = -9
                close(11, 2) = 1
                joined(0) = -9
                joined(2) = 13
                join(0) = 2
                """);
        Edge.holds("the last 12 of 40 DEFECTS", """
                28 x defect(0, 0, 0, 0, 0, 0) = 0 on
                12 x defect(1, 100, 0, 0, 0, 0) = 28 on
                8 x line(1, 100, 0) = 0 on
                join(0) = 0
                28 x close(i, 2) = 1
                join(0) = 8
                8 x joined(i) = 28 on
                defect(1, 100, 0, 0, 0, 0) = -6
                close(28, 2) = 1
                join(0) = 8              # fewer than 12 are left
                8 x joined(i) = 29 on
                close(36, 2) = 1
                close(37, 2) = 1
                close(38, 2) = 1
                close(39, 2) = 1
                join(0) = 7
                joined(6) = 35
                joined(7) = -9
                """);
    }

    private static void mostThenYards() {
        Edge.holds("each is of one at most", """
                defect(0, 100, 0, 0, 0, 0) = 0
                3 x line(0, 100, 0) = 0 on
                join(0) = 1
                joined(0) = 0
                joined(1) = -9
                joined(2) = -9
                2 x defect(0, 100, 0, 0, 0, 0) = 1 on
                join(0) = 3
                3 x joined(i) = 0 on
                defect(0, 100, 0, 0, 0, 0) = 3
                join(0) = 3              # more DEFECTS than LINES
                """);
        Edge.holds("the most that can be joined", """
                defect(0, 60, 0, 0, 0, 0) = 0
                defect(0, 100, 0, 0, 0, 0) = 1
                line(0, 99, 0) = 0       # 39 and 1 off
                line(0, 139, 0) = 1      # 79 and 39 off
                join(0) = 2
                join(1) = 78             # not 1 YARD with one alone
                joined(0) = 0
                joined(1) = 1
                """);
        Edge.holds("of these the least YARDS apart together", """
                defect(0, 100, 0, 0, 0, 0) = 0
                defect(0, 110, 0, 0, 0, 0) = 1
                line(0, 108, 0) = 0
                line(0, 102, 0) = 1
                join(1) = 4              # not 14 the other way
                joined(0) = 1
                joined(1) = 0
                line(0, 100, 0) = 2
                join(0) = 2
                join(1) = 2
                joined(0) = 1
                joined(1) = -9           # LINE 2 is nearer
                joined(2) = 0
                """);
        Edge.holds("the most YARDS of all: 8 LINES, 200 each", """
                set(2, 200) = 40
                12 x defect(0, 0, 0, 0, 0, 0) = 0 on
                8 x line(0, 200, 0) = 0 on
                join(0) = 8
                join(1) = 1600
                8 x joined(i) = 0 on
                """);
    }

    private static void toldAs() {
        Edge.holds("told as: LINES by numbers, each the least DEFECT with which that goes on", """
                defect(0, 110, 0, 0, 0, 0) = 0
                defect(0, 90, 0, 0, 0, 0) = 1
                line(0, 100, 0) = 0
                joined(0) = 0            # both are 10 off
                line(0, 100, 0) = 1
                joined(0) = 0
                joined(1) = 1
                join(1) = 20
                close(0, 2) = 1
                joined(0) = 1
                joined(1) = -9
                """);
        Edge.holds("the least DEFECT only if that goes on", """
                defect(0, 100, 0, 0, 0, 0) = 0
                defect(0, 120, 0, 0, 0, 0) = 1
                line(0, 110, 0) = 0      # 10 off both
                line(0, 80, 0) = 1       # 20 off DEFECT 0, 40 off DEFECT 1
                join(0) = 2
                join(1) = 30
                joined(0) = 1
                joined(1) = 0
                """);
        Edge.holds("none of 8 LINES is JOINED", """
                8 x line(0, 200, 0) = 0 on
                join(0) = 0
                join(1) = 0
                8 x joined(i) = -9
                12 x defect(0, 0, 0, 0, 0, 0) = 0 on
                join(0) = 0              # all are 200 off
                join(1) = 0
                8 x joined(i) = -9
                """);
        Edge.holds("none behind all", """
                defect(0, 100, 0, 0, 0, 0) = 0
                defect(0, 100, 0, 0, 0, 0) = 1
                4 x line(0, 130, 0) = 0 on
                join(0) = 2
                joined(0) = 0
                joined(1) = 1
                joined(2) = -9
                joined(3) = -9
                """);
        Edge.holds("the least DEFECT, 11 ahead of none", """
                11 x defect(1, 0, 0, 0, 0, 0) = 0 on
                defect(2, 0, 0, 0, 0, 0) = 11
                8 x line(2, 7, 0) = 0 on
                joined(0) = 11
                joined(1) = -9
                joined(7) = -9
                join(0) = 1
                join(1) = 7
                """);
    }
}
