/** The boundaries of part I of the document, promises 1 to 7 and 17, a sentence each. */
public final class DaysEdgesTest {
    public static void main(String[] args) {
        newObject();
        lastCall();
        days();
        tonsAndCold();
        missingOnes();
        missingOnesAsDaysPass();
        defects();
        looks();
        sizes();
        growth();
        spans();
        quarrels();
        Check.end("DaysEdgesTest");
    }

    private static void newObject() {
        Edge.holds("LineWalkers(): DAY 0; nothing", """
                count(0) = 0
                count(1) = 0
                count(2) = 0
                count(3) = 0
                count(4) = 0
                count(5) = 0
                count(6) = 0
                count(7) = 0
                count(8) = 0
                count(9) = 0
                overdue() = 0
                lost() = 0
                worst() = -9
                sure() = 0
                plan(0) = 0
                plan(1) = 0
                join(0) = 0
                join(1) = 0
                walks(1, 0) = 0
                walks(1, 1) = 0
                walks(1, 2) = 1
                20 x risk(i) = 0
                20 x heat(i) = 0
                20 x eyes(i, 0) = -9
                20 x eyes(i, 1) = -9
                6 x lot(i, 0) = 0
                lot(0, 1) = 20
                lot(1, 1) = 0
                lot(5, 1) = 0
                """);
        Edge.holds("no such DEFECT, LINE, JOB, nor a SLOW ORDER in a new object", """
                look(0, 0, 0) = -1
                span(0, 0) = -1
                force(0) = -1
                due(0) = -1
                close(0, 2) = -1
                joined(0) = -1
                gangOf(0) = -1
                20 x lift(i) = -3
                """);
    }

    /** "An object is used for at most 512 calls after it has been made": the last one is answered as the first. */
    private static void lastCall() {
        LineWalkers x = new LineWalkers();
        for (int i = 0; i < 511; i++) {
            Check.due("call " + i + ": no such mile", x.risk(20), -1);
        }
        Check.due("call 512", x.count(11), 511);
        LineWalkers y = new LineWalkers();
        for (int i = 0; i < 511; i++) {
            Check.due("a day", y.days(1), i + 1);
        }
        Check.due("call 512", y.risk(0), 511);
    }

    private static void days() {
        Edge.holds("DAYS go on from 0 (1000 at most)", """
                count(0) = 0
                days(999) = 999
                days(2) = -6
                days(1) = 1000
                days(1) = -6
                days(MAX) = -6
                days(0) = -4
                count(0) = 1000
                day(1000, 0, 5) = -1
                dayOf(1000, 0) = 5
                day(999, 0, 5) = 1000000003
                day(1001, 0, 5) = 1000000001
                dayOf(1001, 0) = -1
                """);
        Edge.holds("n DAYS pass: DAY. -4 below 1; -6 above 1000 in all", """
                days(1001) = -6
                days(0) = -4
                days(-1) = -4
                days(MIN) = -4
                days(MAX) = -6
                days(1) = 1
                days(1000) = -6
                days(2147483646) = -6    # with the 1 that passed it is the greatest int
                days(MAX) = -6           # with the 1 that passed it wraps around
                days(999) = 1000
                """);
        Edge.holds("all 1000 DAYS at once", """
                days(1000) = 1000
                count(0) = 1000
                """);
    }

    private static void tonsAndCold() {
        Edge.holds("TONS of a DAY (0 .. 99, or missing: -1; missing at first)", """
                day(0, 0, 0) = -1
                dayOf(0, 0) = 0
                day(0, 0, 99) = 0
                dayOf(0, 0) = 99
                day(0, 0, 100) = 1000000006
                day(0, 0, MAX) = 1000000006
                day(0, 0, -2) = 1000000004
                day(0, 0, MIN) = 1000000004
                day(0, 0, -1) = 99
                dayOf(0, 0) = 30
                day(0, 0, -1) = -1
                day(1000, 0, -1) = -1
                """);
        Edge.holds("COLD of a DAY (degrees below 0, 0 .. 40, or missing)", """
                day(0, 1, 0) = -1
                dayOf(0, 1) = 0
                day(0, 1, 40) = 0
                dayOf(0, 1) = 40
                day(0, 1, 41) = 1000000006
                day(0, 1, MAX) = 1000000006
                day(0, 1, -2) = 1000000004
                day(0, 1, MIN) = 1000000004
                day(0, 1, -1) = 40
                dayOf(0, 1) = 10
                """);
        Edge.holds("Of a DAY (0 .. 1000) what 0 TONS, 1 COLD becomes v (-1: missing): what it was (-1)", """
                day(1000, 0, 1) = -1
                day(1000, 1, 2) = -1
                day(1000, 0, 3) = 1
                day(1000, 1, 4) = 2
                day(999, 0, 5) = -1
                dayOf(1000, 0) = 3
                dayOf(1000, 1) = 4
                """);
        Edge.holds("Refused as told: -1; -2; -3 the DAY has passed; -4; -6", """
                days(3)
                day(-1, 2, -2) = 1000000001
                day(1001, 2, 100) = 1000000001
                day(MIN, 2, -2) = 1000000001
                day(MAX, 2, -2) = 1000000001
                day(2, 2, -2) = 1000000002
                day(2, -1, -2) = 1000000002
                day(2, 0, -2) = 1000000003
                day(2, 0, 100) = 1000000003
                day(0, 1, 0) = 1000000003
                day(2, 1, -1) = 1000000003
                day(3, 0, -2) = 1000000004
                day(3, 0, 100) = 1000000006
                day(3, 0, 7) = -1
                """);
        Edge.holds("What counts of it. -1; -2", """
                days(3)
                dayOf(-1, 2) = -1
                dayOf(1001, -1) = -1
                dayOf(MIN, 0) = -1
                dayOf(MAX, 0) = -1
                dayOf(0, 2) = -2
                dayOf(0, -1) = -2
                dayOf(0, MAX) = -2
                dayOf(0, MIN) = -2
                dayOf(0, 0) = 30
                dayOf(1000, 1) = 10
                """);
    }

    private static void missingOnes() {
        Edge.holds("a missing one counts as the greatest of the told ones of the 7 DAYS ahead of it", """
                day(3, 0, 20) = -1
                dayOf(2, 0) = 30         # a DAY behind it does not count
                dayOf(3, 0) = 20
                dayOf(4, 0) = 20
                dayOf(10, 0) = 20        # the seventh
                dayOf(11, 0) = 30        # the eighth
                dayOf(4, 1) = 10         # COLD is apart
                day(6, 0, 19) = -1
                dayOf(7, 0) = 20         # the greatest, not the latest
                dayOf(10, 0) = 20
                dayOf(11, 0) = 19
                dayOf(13, 0) = 19
                dayOf(14, 0) = 30
                day(6, 0, 21) = 19
                dayOf(7, 0) = 21
                dayOf(6, 0) = 21
                """);
        Edge.holds("nothing missing of the 7 DAYS ahead", """
                day(0, 1, 40)
                day(1, 1, 12)
                day(2, 1, 3)
                day(3, 1, 11)
                day(4, 1, 0)
                day(5, 1, 2)
                day(6, 1, 1)
                dayOf(7, 1) = 40
                dayOf(8, 1) = 12
                dayOf(9, 1) = 11
                dayOf(11, 1) = 2
                dayOf(12, 1) = 2
                dayOf(13, 1) = 1
                dayOf(14, 1) = 10
                """);
        Edge.holds("everything missing of the 7 DAYS ahead: without one as 30 TONS, 10 COLD", """
                dayOf(0, 0) = 30
                dayOf(0, 1) = 10
                dayOf(1, 0) = 30
                dayOf(7, 1) = 10
                dayOf(1000, 0) = 30
                dayOf(1000, 1) = 10
                day(0, 0, 50)
                day(0, 1, 20)
                dayOf(7, 0) = 50
                dayOf(8, 0) = 30         # DAY 7 counts as 50, but it was not told
                dayOf(7, 1) = 20
                dayOf(8, 1) = 10
                """);
        Edge.holds("a told 0 is told", """
                day(5, 0, 0)
                day(5, 1, 0)
                dayOf(5, 0) = 0
                dayOf(5, 1) = 0
                dayOf(12, 0) = 0
                dayOf(12, 1) = 0
                dayOf(13, 0) = 30
                dayOf(13, 1) = 10
                """);
        Edge.holds("one that is missing again is not told", """
                day(5, 0, 80)
                day(4, 0, 6)
                dayOf(6, 0) = 80
                day(5, 0, -1) = 80
                dayOf(5, 0) = 6
                dayOf(6, 0) = 6
                day(4, 0, -1) = 6
                dayOf(6, 0) = 30
                """);
        Edge.holds("the first and the last DAYS of all", """
                day(0, 0, 8)
                dayOf(1, 0) = 8
                day(992, 0, 4)
                dayOf(999, 0) = 4
                dayOf(1000, 0) = 30
                day(993, 0, 5)
                dayOf(1000, 0) = 5
                day(1000, 1, 6)
                dayOf(999, 1) = 10
                dayOf(1000, 1) = 6
                """);
    }

    private static void missingOnesAsDaysPass() {
        Edge.holds("what counts of a missing DAY counts as it passes", """
                day(0, 0, 99)
                day(0, 1, 15)
                defect(0, 0, 0, 0, 0, 0) = 0
                days(1)
                span(0, 1) = 15          # 990 and 495: 1 and 14
                days(7)
                span(0, 1) = 120         # the same 7 times
                days(1)
                span(0, 1) = 124         # 30 TONS, 10 COLD: 1 and 3
                dayOf(7, 0) = 99
                dayOf(8, 0) = 30
                """);
    }

    private static void defects() {
        Edge.holds("DEFECTS have numbers from 0 on (40 at most)", """
                39 x defect(0, i, 0, 3, 1, 1) = 0 on
                force(39) = -1
                defect(19, 39, 1, 3, 1, 1) = 39
                force(39) = -9
                force(40) = -1
                count(1) = 40
                defect(0, 0, 0, 3, 1, 1) = -6
                lot(0, 0) = 40
                close(0, 2) = 1
                defect(0, 0, 0, 3, 1, 1) = -6    # a CLOSED one makes no room
                look(1, 1, 1) = 1
                count(3) = 41
                """);
        Edge.holds("a MILE, a YARD (0 .. 1759)", """
                defect(0, 0, 0, 0, 0, 0) = 0
                defect(19, 1759, 0, 0, 0, 0) = 1
                defect(-1, 0, 0, 0, 0, 0) = -1
                defect(20, 0, 0, 0, 0, 0) = -1
                defect(0, -1, 0, 0, 0, 0) = -4
                defect(0, 1760, 0, 0, 0, 0) = -6
                risk(0) = 0
                days(1)
                risk(0) = 2
                risk(19) = 2
                """);
        Edge.holds("a SIDE (0, 1), a KIND (0 .. 3)", """
                defect(0, 0, 0, 0, 0, 0) = 0
                defect(0, 0, 1, 3, 0, 0) = 1
                defect(0, 0, -1, 0, 0, 0) = -4
                defect(0, 0, 2, 0, 0, 0) = -6
                defect(0, 0, 0, -1, 0, 0) = -1
                defect(0, 0, 0, 4, 0, 0) = -1
                lot(0, 0) = 1
                """);
        Edge.holds("and are OPEN or CLOSED", """
                defect(0, 0, 0, 0, 5, 0) = 0
                defect(0, 0, 0, 0, 5, 0) = 1
                count(2) = 2
                close(0, 2) = 1
                count(2) = 1
                look(0, 5, 0) = -3
                span(0, 0) = -3
                span(0, 1) = -3
                force(0) = -3
                due(0) = -3
                close(0, 2) = -3
                span(1, 0) = 5
                """);
        Edge.holds("A DEFECT, OPEN, with its first LOOK: its number. -1; -4; -6", """
                defect(20, -1, 2, 0, 1000, 51) = -1
                defect(0, -1, 2, 4, 1000, 51) = -1
                defect(0, 1760, -1, 0, 1000, 51) = -4
                defect(0, 1760, 2, 0, 1000, -1) = -4
                defect(0, 1760, 2, 0, -1, 51) = -4
                defect(0, 1760, 2, 0, 1000, 51) = -6
                defect(0, 0, 0, 0, 1, 1) = 0
                count(2) = 1
                count(3) = 1
                """);
    }

    private static void looks() {
        Edge.holds("LOOKS at a DEFECT (120 in all), all at one", """
                defect(0, 0, 0, 0, 1, 1) = 0
                118 x look(0, 1, 1) = 1
                count(3) = 119
                look(0, 1, 1) = 1
                rule(0, 0, 0, 0, 4) = 0
                look(0, 1, 1) = -6       # the RULE is not noted either
                look(0, 900, 1) = -6
                defect(0, 0, 0, 3, 1, 1) = -6
                look(0, -1, 1) = -4
                look(1, 1, 1) = -1
                count(3) = 120
                count(4) = 0
                close(0, 2) = 1
                look(0, 1, 1) = -3
                defect(0, 0, 0, 0, 1, 1) = -6
                """);
        Edge.holds("LOOKS at a DEFECT (120 in all), the last one that of a DEFECT", """
                38 x defect(0, 0, 0, 0, 1, 1) = 0 on
                38 x look(i, 1, 1) = 1
                38 x look(i, 1, 1) = 1
                5 x look(i, 1, 1) = 1
                count(3) = 119
                defect(0, 0, 0, 0, 1, 1) = 38
                defect(0, 0, 0, 0, 1, 1) = -6    # there is room for DEFECT 39, but not for its LOOK
                look(38, 1, 1) = -6
                count(1) = 39
                """);
        Edge.holds("40 DEFECTS and 120 LOOKS", """
                40 x defect(0, 0, 0, 0, 1, 1) = 0 on
                40 x look(i, 1, 1) = 1
                39 x look(i, 1, 1) = 1
                look(39, 1, 1) = 1
                look(39, 1, 1) = -6
                count(3) = 120
                """);
        Edge.holds("a DAY (that of now)", """
                rule(0, 0, 0, 0, 10) = 0
                days(4)
                defect(0, 0, 0, 0, 1, 1) = 0
                due(0) = 14
                days(3)
                due(0) = 14
                look(0, 1, 1) = 1
                due(0) = 14
                """);
        Edge.holds("A LOOK at an OPEN DEFECT: 1; 0 it QUARRELS. -1; -3; -4; -6", """
                defect(0, 0, 0, 0, 1, 1) = 0
                defect(0, 0, 0, 0, 1, 1) = 1
                close(1, 3) = 1
                look(2, -1, 51) = -1
                look(-1, -1, 51) = -1
                look(MAX, 0, 0) = -1
                look(MIN, 0, 0) = -1
                look(1, -1, 51) = -3
                look(0, -1, 51) = -4
                look(0, 1000, -1) = -4
                look(0, 1000, 0) = -6
                look(0, 0, 51) = -6
                look(0, 1, 1) = 1
                look(0, 9, 1) = 0
                """);
    }

    private static void sizes() {
        Edge.holds("a SIZE (0 .. 999) and a DOUBT (0 .. 50)", """
                defect(0, 0, 0, 0, 0, 0) = 0
                defect(0, 0, 0, 0, 999, 50) = 1
                defect(0, 0, 0, 0, -1, 0) = -4
                defect(0, 0, 0, 0, 0, -1) = -4
                defect(0, 0, 0, 0, 1000, 0) = -6
                defect(0, 0, 0, 0, 0, 51) = -6
                look(0, 0, 0) = 1
                look(1, 999, 50) = 1
                look(1, -1, 0) = -4
                look(1, 0, -1) = -4
                look(1, 1000, 0) = -6
                look(1, 0, 51) = -6
                """);
        Edge.holds("a SIZE and a DOUBT whose sum or difference would wrap around", """
                defect(0, 0, 0, 0, 10, 10) = 0
                look(0, MAX, 1) = -6
                look(0, MAX, 50) = -6
                look(0, 1, MAX) = -6
                look(0, 999, MAX) = -6
                look(0, MAX, MAX) = -6
                look(0, MIN, 1) = -4
                look(0, MIN, MAX) = -4
                look(0, 1, MIN) = -4
                look(0, MAX, MIN) = -4
                defect(0, 0, 0, 0, MAX, 50) = -6
                defect(0, 0, 0, 0, MIN, 50) = -4
                defect(0, 0, 0, 0, 0, MIN) = -4
                span(0, 1) = 20
                """);
        Edge.holds("its size was SIZE less DOUBT (0 at least) to SIZE and DOUBT", """
                defect(0, 0, 0, 0, 50, 50) = 0
                span(0, 0) = 0
                span(0, 1) = 100
                defect(0, 0, 0, 0, 49, 50) = 1
                span(1, 0) = 0
                span(1, 1) = 99
                defect(0, 0, 0, 0, 51, 50) = 2
                span(2, 0) = 1
                span(2, 1) = 101
                defect(0, 0, 0, 0, 0, 0) = 3
                span(3, 0) = 0
                span(3, 1) = 0
                defect(0, 0, 0, 0, 999, 50) = 4
                span(4, 0) = 949
                span(4, 1) = 1049
                defect(0, 0, 0, 0, 0, 50) = 5
                span(5, 0) = 0
                span(5, 1) = 50
                defect(0, 0, 0, 0, 999, 0) = 6
                span(6, 0) = 999
                span(6, 1) = 999
                """);
    }

    private static void growth() {
        Edge.holds("GROWTH of a KIND: G (0 .. 50; 10 at first)", """
                4 x growth(i, 0) = 10
                4 x growth(i, 50) = 0
                4 x growth(i, -1) = -4
                4 x growth(i, 51) = -6
                growth(0, MIN) = -4
                growth(0, MAX) = -6
                growth(-1, -1) = -1
                growth(4, 51) = -1
                growth(MIN, 0) = -1
                growth(MAX, 0) = -1
                4 x growth(i, 10) = 50
                """);
        Edge.holds("grow by nothing, or more, up to 1 and x by 100, cut", """
                growth(0, 1)
                growth(1, 2)
                growth(2, 0)
                growth(3, 50)
                4 x defect(0, 0, 0, i, 0, 0) = 0 on
                day(0, 0, 99)
                day(1, 0, 50)
                day(2, 0, 0)
                day(3, 0, 49)
                days(1)
                span(0, 1) = 1           # 99
                span(1, 1) = 2           # 198
                span(2, 1) = 1           # 0
                span(3, 1) = 50          # 4950
                days(1)
                span(0, 1) = 2           # 50
                span(1, 1) = 4           # 100
                days(1)
                span(0, 1) = 3           # no TONS
                span(3, 1) = 77          # 2500, then no TONS
                days(1)
                span(1, 1) = 6           # no TONS, then 98
                4 x span(i, 0) = 0
                """);
        Edge.holds("a half of that (cut) more if its COLD is 15 or more", """
                growth(0, 7)
                growth(1, 1)
                defect(0, 0, 0, 0, 0, 0) = 0
                defect(0, 0, 0, 1, 0, 0) = 1
                day(0, 0, 19)
                day(0, 1, 15)
                days(1)
                span(0, 1) = 2           # 133 and 66
                day(1, 0, 66)
                day(1, 1, 14)
                days(1)
                span(0, 1) = 7           # 462
                span(1, 1) = 2           # 66
                day(2, 0, 67)
                day(2, 1, 15)
                days(1)
                span(1, 1) = 4           # 67 and 33
                day(3, 0, 66)
                day(3, 1, 40)
                days(1)
                span(1, 1) = 5           # 66 and 33
                day(4, 0, 67)
                day(4, 1, 14)
                days(1)
                span(1, 1) = 6           # 67
                """);
        Edge.holds("the greatest growth of all", """
                growth(3, 50)
                day(0, 0, 99)
                day(0, 1, 40)
                defect(0, 0, 0, 3, 999, 50) = 0
                days(1)
                span(0, 1) = 1124        # 4950 and 2475
                span(0, 0) = 949
                """);
    }

    private static void spans() {
        Edge.holds("SPAN of an OPEN DEFECT: from its first LOOK on, DAY by DAY", """
                days(5)
                defect(0, 0, 0, 0, 10, 3) = 0
                span(0, 0) = 7
                span(0, 1) = 13
                days(1)
                span(0, 0) = 7
                span(0, 1) = 17
                days(2)
                span(0, 1) = 25
                """);
        Edge.holds("a SPAN may be beyond 999", """
                growth(0, 50)
                defect(0, 0, 0, 0, 999, 50) = 0
                days(1000) = 1000
                span(0, 0) = 949
                span(0, 1) = 17049       # 16 each DAY
                look(0, 999, 0) = 1
                span(0, 1) = 999
                """);
        Edge.holds("cut by each LOOK: least and greatest", """
                defect(0, 0, 0, 0, 50, 10) = 0
                look(0, 50, 11) = 1      # a wider one cuts nothing
                span(0, 0) = 40
                span(0, 1) = 60
                look(0, 50, 9) = 1
                span(0, 0) = 41
                span(0, 1) = 59
                look(0, 60, 18) = 1
                span(0, 0) = 42
                span(0, 1) = 59
                look(0, 40, 18) = 1
                span(0, 0) = 42
                span(0, 1) = 58
                look(0, 58, 0) = 1
                span(0, 0) = 58
                span(0, 1) = 58
                """);
        Edge.holds("what 0 the least, 1 the greatest. -1; -2; -3 it is CLOSED", """
                defect(0, 0, 0, 0, 8, 3) = 0
                defect(0, 0, 0, 0, 8, 3) = 1
                close(1, 2) = 1
                span(2, 2) = -1
                span(-1, -1) = -1
                span(MIN, 0) = -1
                span(MAX, 0) = -1
                span(1, 2) = -2
                span(1, -1) = -2
                span(0, 2) = -2
                span(0, MIN) = -2
                span(0, MAX) = -2
                span(1, 0) = -3
                span(1, 1) = -3
                span(0, 0) = 5
                span(0, 1) = 11
                """);
    }

    private static void quarrels() {
        Edge.holds("A LOOK that leaves nothing of it QUARRELS: the SPAN is then what that LOOK tells", """
                defect(0, 0, 0, 0, 50, 5) = 0
                count(4) = 0
                look(0, 40, 5) = 1       # its greatest is the least of the SPAN
                span(0, 0) = 45
                span(0, 1) = 45
                look(0, 40, 4) = 0       # 36 .. 44
                span(0, 0) = 36
                span(0, 1) = 44
                look(0, 50, 6) = 1       # its least is the greatest of the SPAN
                span(0, 0) = 44
                span(0, 1) = 44
                look(0, 50, 5) = 0       # 45 .. 55
                span(0, 0) = 45
                span(0, 1) = 55
                look(0, 10, 50) = 1      # 0 .. 60
                count(4) = 2
                count(3) = 6
                """);
        Edge.holds("the SPAN goes on from a LOOK that QUARRELS", """
                defect(0, 0, 0, 0, 50, 5) = 0
                days(1)
                span(0, 1) = 59
                look(0, 60, 0) = 0       # one above what it may be now
                days(1)
                span(0, 0) = 60
                span(0, 1) = 64
                look(0, 64, 0) = 1
                look(0, 3, 5) = 0
                span(0, 0) = 0
                span(0, 1) = 8
                count(4) = 2
                """);
        Edge.holds("the first LOOK leaves all that it tells", """
                40 x defect(0, 0, 0, 0, 999, 50) = 0 on
                count(4) = 0
                """);
    }
}
