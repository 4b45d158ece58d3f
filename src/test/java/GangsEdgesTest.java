/** The boundaries of part IV of the document and of REFUSALS, promises 29 to 38, a sentence each. */
public final class GangsEdgesTest {
    public static void main(String[] args) {
        jobs();
        gangs();
        tools();
        late();
        bestPlan();
        orderOfDues();
        heat();
        rails();
        cracks();
        worst();
        sure();
        refusals();
        count();
        Check.end("GangsEdgesTest");
    }

    private static void jobs() {
        Edge.holds("JOBS (8 at most)", """
                7 x job(1, i, 0) = 0 on
                gangOf(7) = -1
                job(40, 400, 15) = 7
                gangOf(7) = 0
                gangOf(8) = -1
                job(1, 0, 0) = -6
                job(0, 0, 0) = -4
                count(9) = 8
                """);
        Edge.holds("HOURS (1 .. 40), a DUE hour (0 .. 400), TOOLS (bits 0 .. 3)", """
                job(1, 0, 0) = 0
                job(40, 400, 15) = 1
                job(0, 0, 0) = -4
                job(41, 0, 0) = -6
                job(MIN, 0, 0) = -4
                job(MAX, 0, 0) = -6
                job(1, -1, 0) = -4
                job(1, 401, 0) = -6
                job(1, MIN, 0) = -4
                job(1, MAX, 0) = -6
                job(1, 0, -1) = -4
                job(1, 0, 16) = -6
                job(1, 0, MIN) = -4
                job(1, 0, MAX) = -6
                """);
        Edge.holds("A JOB: its number. -4; -6 (8, too)", """
                job(41, 401, -1) = -4
                job(41, -1, 16) = -4
                job(0, 401, 16) = -4
                job(41, 401, 16) = -6
                count(9) = 0
                """);
    }

    private static void gangs() {
        Edge.holds("GANGS 0 and 1; a GANG has TOOLS (bits; all at first)", """
                gang(0, 0) = 15
                gang(1, 15) = 15
                gang(0, 15) = 0
                gang(1, 0) = 15
                gang(1, 9) = 0
                gang(1, 6) = 9
                """);
        Edge.holds("TOOLS of a GANG: what they were. -1; -4; -6", """
                gang(-1, -1) = -1
                gang(2, 16) = -1
                gang(MIN, 0) = -1
                gang(MAX, 0) = -1
                gang(0, -1) = -4
                gang(1, -1) = -4
                gang(0, MIN) = -4
                gang(0, 16) = -6
                gang(1, 16) = -6
                gang(0, MAX) = -6
                gang(0, 15) = 15
                gang(1, 15) = 15
                """);
        Edge.holds("The GANG of a JOB in it; -9 there is no PLAN. -1", """
                gangOf(0) = -1
                job(1, 0, 1) = 0
                gangOf(0) = 0
                gangOf(1) = -1
                gangOf(-1) = -1
                gangOf(MIN) = -1
                gangOf(MAX) = -1
                gang(0, 0) = 15
                gangOf(0) = 1
                gang(1, 0) = 15
                gangOf(0) = -9
                """);
        Edge.holds("the least LATE of any (what 0), together (1); -9 there is none. -2", """
                plan(0) = 0              # no JOB
                plan(1) = 0
                plan(-1) = -2
                plan(2) = -2
                plan(MIN) = -2
                plan(MAX) = -2
                job(1, 0, 15) = 0
                plan(0) = 1
                gang(0, 14) = 15
                gang(1, 7) = 15
                plan(0) = -9
                plan(1) = -9
                plan(2) = -2
                """);
    }

    private static void tools() {
        Edge.holds("A JOB goes to a GANG that has all its TOOLS", """
                job(1, 400, 1) = 0
                job(1, 400, 2) = 1
                job(1, 400, 4) = 2
                job(1, 400, 8) = 3
                job(1, 400, 0) = 4
                5 x gangOf(i) = 0
                gang(0, 14) = 15
                gangOf(0) = 1
                gangOf(1) = 0
                gang(0, 13) = 14
                gangOf(0) = 0
                gangOf(1) = 1
                gang(0, 11) = 13
                gangOf(1) = 0
                gangOf(2) = 1
                gang(0, 7) = 11
                gangOf(2) = 0
                gangOf(3) = 1
                gang(0, 0) = 7
                4 x gangOf(i) = 1
                gangOf(4) = 0            # without TOOLS any GANG will do
                """);
        Edge.holds("all of them: one alone is not enough", """
                job(1, 400, 15) = 0
                job(1, 400, 0) = 1
                gang(0, 7) = 15
                gang(1, 8) = 15
                plan(0) = -9             # together they would have all
                gangOf(0) = -9
                gangOf(1) = -9
                gang(1, 15) = 8
                plan(0) = 0
                gangOf(0) = 1
                gangOf(1) = 0
                """);
    }

    private static void late() {
        Edge.holds("LATE of a JOB: its end less DUE, 0 at least", """
                job(5, 6, 0) = 0
                plan(0) = 0
                plan(1) = 0
                job(5, 5, 0) = 1
                plan(0) = 0              # it ends at 5
                job(6, 5, 0) = 2
                plan(0) = 4              # 5 and 10 by GANG 0, 6 by GANG 1
                plan(1) = 5
                gangOf(0) = 0
                gangOf(1) = 0
                gangOf(2) = 1
                """);
        Edge.holds("each GANG does its JOBS one behind the other, from hour 0 on", """
                gang(1, 0) = 15
                job(1, 0, 1) = 0
                plan(0) = 1
                job(40, 0, 1) = 1
                plan(0) = 41
                plan(1) = 42
                job(40, 400, 1) = 2
                plan(0) = 41
                plan(1) = 42
                """);
        Edge.holds("the most LATE of all: 8 JOBS by one GANG", """
                gang(0, 0) = 15
                8 x job(40, 0, 8) = 0 on
                plan(0) = 320
                plan(1) = 1440
                8 x gangOf(i) = 1
                gang(0, 8) = 0
                plan(0) = 160            # four each
                plan(1) = 800
                4 x gangOf(i) = 0
                gangOf(4) = 1
                gangOf(7) = 1
                """);
    }

    private static void bestPlan() {
        Edge.holds("that with the least LATE of any JOB", """
                job(9, 4, 0) = 0
                job(5, 3, 0) = 1
                job(7, 2, 0) = 2
                plan(0) = 9              # 5 and 9 by GANG 1, 5 by GANG 0
                plan(1) = 19             # not 17 with a JOB that is 10 LATE
                gangOf(0) = 0
                gangOf(1) = 1
                gangOf(2) = 1
                """);
        Edge.holds("of these the least LATE together", """
                job(10, 0, 1) = 0
                job(2, 5, 0) = 1
                job(5, 6, 0) = 2
                gang(1, 14) = 15
                plan(0) = 10             # JOB 0 can't be earlier
                plan(1) = 11             # 2 and 7 by GANG 1
                gangOf(0) = 0
                gangOf(1) = 1
                gangOf(2) = 1
                """);
        Edge.holds("of several the first (JOBS by numbers, GANG 0 first)", """
                8 x job(1, 400, 0) = 0 on
                8 x gangOf(i) = 0
                gang(0, 0) = 15
                8 x gangOf(i) = 0        # they need no TOOLS
                """);
        Edge.holds("the first by the number of a JOB, not by its DUE", """
                job(2, 9, 0) = 0
                job(4, 4, 0) = 1
                job(4, 4, 0) = 2
                plan(0) = 0
                gangOf(0) = 0            # behind the one that is DUE ahead of it
                gangOf(1) = 0
                gangOf(2) = 1
                """);
    }

    private static void orderOfDues() {
        Edge.holds("in the order of DUES", """
                gang(1, 0) = 15
                job(10, 50, 1) = 0
                job(40, 49, 1) = 1
                plan(0) = 0              # 40, 50
                job(5, 52, 1) = 2
                plan(0) = 3              # 40, 50, 55
                plan(1) = 3
                job(1, 0, 1) = 3
                plan(0) = 4              # 1, 41, 51, 56
                plan(1) = 6
                """);
        Edge.holds("in the order of DUES, told in any order", """
                gang(1, 0) = 15
                job(5, 10, 1) = 0
                job(20, 50, 1) = 1
                job(20, 30, 1) = 2
                plan(0) = 0              # 5, 25, 45
                job(5, 50, 1) = 3
                plan(0) = 0              # 50 at the end
                job(5, 30, 1) = 4
                plan(0) = 5              # 5, 25, 30, 50, 55
                plan(1) = 5
                job(1, 0, 1) = 5
                plan(0) = 6              # 1, 6, 26, 31, 51, 56
                plan(1) = 9
                """);
        Edge.holds("(of one by numbers)", """
                gang(0, 0) = 15
                job(9, 3, 1) = 0
                job(1, 3, 1) = 1
                plan(0) = 7              # 9, 10
                plan(1) = 13             # not 1, 10
                job(2, 2, 1) = 2
                plan(0) = 9              # 2, 11, 12
                plan(1) = 17
                """);
    }

    private static void heat() {
        Edge.holds("WARMTH now (-30 .. 50; 10 at first) less that at which its RAIL was laid, the amount", """
                20 x heat(i) = 0
                set(3, 50) = 10
                heat(0) = 40
                rail(0, 0, -30) = 10
                heat(0) = 80             # the greatest of all
                set(3, -30) = 50
                heat(0) = 0
                heat(19) = 40
                rail(19, 0, 50) = 10
                heat(19) = 80
                set(3, -31) = 1000000004
                set(3, 51) = 1000000006
                heat(19) = 80
                """);
        Edge.holds("HEAT of a MILE. -1", """
                heat(-1) = -1
                heat(20) = -1
                heat(MIN) = -1
                heat(MAX) = -1
                heat(0) = 0
                heat(19) = 0
                """);
    }

    private static void rails() {
        Edge.holds("its RAIL was laid at a WARMTH (what 0, -30 .. 50), its LOT (1) becomes v: what it was", """
                rail(0, 0, -30) = 10
                rail(0, 0, 50) = -30
                rail(0, 0, -31) = 1000000004
                rail(0, 0, 51) = 1000000006
                rail(0, 0, -1) = 50
                rail(0, 0, 0) = -1       # an answer below 0 that is no refusal
                rail(19, 0, 1) = 10
                rail(0, 1, 5) = 0
                rail(0, 1, 0) = 5
                """);
        Edge.holds("each MILE has a LOT (0 .. 5; 0 at first)", """
                20 x rail(i, 1, 5) = 0
                lot(5, 1) = 20
                lot(0, 1) = 0
                20 x rail(i, 1, 0) = 5
                rail(3, 1, -1) = 1000000004
                rail(3, 1, 6) = 1000000006
                rail(3, 1, MIN) = 1000000004
                rail(3, 1, MAX) = 1000000006
                lot(0, 1) = 20
                """);
        Edge.holds("Refused as told: -1; -2; -4; -6", """
                rail(-1, 2, -31) = 1000000001
                rail(20, -1, 51) = 1000000001
                rail(MIN, 0, 0) = 1000000001
                rail(MAX, 1, 0) = 1000000001
                rail(0, 2, -31) = 1000000002
                rail(0, -1, 51) = 1000000002
                rail(0, MIN, 0) = 1000000002
                rail(0, MAX, 0) = 1000000002
                rail(0, 0, MIN) = 1000000004
                rail(0, 0, MAX) = 1000000006
                """);
    }

    private static void cracks() {
        Edge.holds("DEFECTS of KIND 3 ever told in MILES that had that LOT as they were told", """
                4 x defect(0, 0, 0, i, 0, 0) = 0 on
                lot(0, 0) = 1            # KIND 3 alone
                rail(0, 1, 5) = 0
                lot(0, 0) = 1            # the LOT that it was told in
                lot(5, 0) = 0
                defect(0, 0, 0, 3, 0, 0) = 4
                lot(5, 0) = 1
                look(4, 0, 0) = 1
                lot(5, 0) = 1            # a LOOK is no DEFECT
                close(3, 2) = 1
                close(4, 3) = 1
                lot(0, 0) = 1            # ever told
                lot(5, 0) = 1
                defect(0, 0, 0, 3, 0, 51) = -6
                lot(5, 0) = 1
                """);
        Edge.holds("CRACKS of a LOT (what 0), MILES that have it now (1). -1; -2", """
                6 x lot(i, 0) = 0
                lot(0, 1) = 20
                lot(5, 1) = 0
                lot(-1, 2) = -1
                lot(6, -1) = -1
                lot(MIN, 0) = -1
                lot(MAX, 0) = -1
                lot(0, 2) = -2
                lot(0, -1) = -2
                lot(5, MIN) = -2
                lot(5, MAX) = -2
                """);
        Edge.holds("40 CRACKS of one LOT", """
                40 x defect(19, 0, 0, 3, 0, 0) = 0 on
                lot(0, 0) = 40
                worst() = 0
                sure() = 1
                """);
    }

    private static void worst() {
        Edge.holds("WORST LOT; -9 no CRACKS at all in LOTS that have MILES", """
                worst() = -9
                3 x defect(0, 0, 0, i, 0, 0) = 0 on
                worst() = -9             # no KIND 3
                rail(7, 1, 4) = 0
                defect(7, 0, 0, 3, 0, 0) = 3
                worst() = 4
                rail(7, 1, 5) = 4
                worst() = -9             # LOT 4 has no MILES
                sure() = 0
                rail(8, 1, 4) = 0
                worst() = 4
                """);
        Edge.holds("the greatest CRACKS by MILES that have it now (as fractions)", """
                rail(1, 1, 1) = 0
                rail(2, 1, 2) = 0
                rail(3, 1, 2) = 0
                defect(1, 0, 0, 3, 0, 0) = 0
                2 x defect(2, 0, 0, 3, 0, 0) = 1 on
                worst() = 1              # 1 by 1 and 2 by 2: the least
                defect(3, 0, 0, 3, 0, 0) = 3
                worst() = 2              # 3 by 2
                rail(4, 1, 2) = 0
                worst() = 1              # 3 by 3
                rail(5, 1, 1) = 0
                worst() = 2              # 1 by 2 and 3 by 3
                """);
        Edge.holds("fractions that are near: 1 by 7, 2 by 13", """
                7 x rail(i, 1, 3) = 0
                defect(0, 0, 0, 3, 0, 0) = 0
                defect(19, 0, 0, 3, 0, 0) = 1
                worst() = 3              # 1 by 7 and 1 by 13
                defect(19, 0, 0, 3, 0, 0) = 2
                worst() = 0
                """);
        Edge.holds("of several the least", """
                rail(1, 1, 5) = 0
                rail(2, 1, 4) = 0
                rail(3, 1, 3) = 0
                defect(1, 0, 0, 3, 0, 0) = 0
                worst() = 5
                defect(2, 0, 0, 3, 0, 0) = 1
                worst() = 4
                defect(3, 0, 0, 3, 0, 0) = 2
                worst() = 3
                """);
    }

    private static void sure() {
        Edge.holds("BEYOND DOUBT: more than twice that of any other LOT that has MILES", """
                sure() = 0               # no WORST LOT
                rail(0, 1, 1) = 0
                rail(1, 1, 2) = 0
                2 x defect(0, 0, 0, 3, 0, 0) = 0 on
                sure() = 1               # the others have none
                defect(1, 0, 0, 3, 0, 0) = 2
                sure() = 0               # just twice
                defect(0, 0, 0, 3, 0, 0) = 3
                sure() = 1               # three times
                rail(2, 1, 1) = 0
                sure() = 0               # 3 by 2
                rail(1, 1, 0) = 2
                sure() = 1               # LOT 2 has no MILES
                """);
        Edge.holds("of any other LOT: the first and the last, more or less than 1 by a MILE", """
                rail(5, 1, 5) = 0
                rail(6, 1, 5) = 0
                rail(7, 1, 3) = 0
                rail(8, 1, 3) = 0
                rail(9, 1, 3) = 0
                3 x defect(7, 0, 0, 3, 0, 0) = 0 on
                defect(5, 0, 0, 3, 0, 0) = 3
                worst() = 3
                sure() = 0               # 3 by 3 and 1 by 2: just twice
                defect(7, 0, 0, 3, 0, 0) = 4
                sure() = 1               # 4 by 3
                7 x defect(0, 0, 0, 3, 0, 0) = 5 on
                sure() = 1               # LOT 0: 7 by 15
                3 x defect(0, 0, 0, 3, 0, 0) = 12 on
                sure() = 0               # LOT 0: 10 by 15, and 4 by 3 is just twice
                """);
        Edge.holds("Whether it is BEYOND DOUBT: one LOT alone has MILES", """
                defect(0, 0, 0, 3, 0, 0) = 0
                worst() = 0
                sure() = 1
                20 x rail(i, 1, 1) = 0
                worst() = -9
                sure() = 0
                """);
    }

    private static void refusals() {
        Edge.holds("the first that fits in the order in which it tells them", """
                defect(0, 0, 0, 0, 0, 0) = 0
                close(0, 2) = 1
                days(1)
                day(1001, 2, -2) = 1000000001
                day(0, 2, -2) = 1000000002
                day(0, 0, -2) = 1000000003
                day(1, 0, -2) = 1000000004
                defect(20, -1, 2, 0, 0, 0) = -1
                defect(0, -1, 2, 0, 0, 0) = -4
                look(1, -1, 51) = -1
                look(0, -1, 51) = -3
                span(0, 2) = -2
                close(0, 1) = -2
                count(11) = 3
                count(12) = 3
                count(13) = 2
                count(14) = 2
                count(15) = 0
                count(16) = 0
                """);
        Edge.holds("Of answers that may be below 0 as told REFUSALS are 1000000000 less them", """
                day(0, 0, 1) = -1
                day(-1, 0, 1) = 1000000001
                set(3, -1) = 10
                set(3, -2) = -1
                set(3, -3) = -2
                set(3, -4) = -3
                set(3, -6) = -4
                set(3, 0) = -6
                set(4, 0) = 1000000002
                rail(0, 0, -1) = 10
                rail(0, 0, -6) = -1
                rail(0, 0, 0) = -6
                rail(0, 0, -31) = 1000000004
                rail(0, 0, 51) = 1000000006
                count(11) = 1
                count(12) = 1
                count(14) = 1
                count(16) = 1
                """);
    }

    private static void count() {
        Edge.holds("11 .. 16 REFUSALS -1 .. -6", """
                risk(20) = -1
                2 x join(2) = -2
                3 x lift(0) = -3
                4 x days(0) = -4
                6 x days(1001) = -6
                count(11) = 1
                count(12) = 2
                count(13) = 3
                count(14) = 4
                count(15) = 0            # no refusal is -5
                count(16) = 6
                """);
        Edge.holds("-9 for another what", """
                count(10) = -9
                count(17) = -9
                count(-1) = -9
                count(MIN) = -9
                count(MAX) = -9
                6 x count(-9) = -9
                count(12) = 0            # it is no refusal
                count(11) = 0
                """);
        Edge.holds("0 DAY, 1 DEFECTS, 2 OPEN ones, 3 LOOKS, 4 QUARRELS, 5 RULES, 6 SLOW ORDERS that stand", """
                days(1000)
                count(0) = 1000
                40 x defect(0, 0, 0, 0, 0, 0) = 0 on
                count(1) = 40
                count(2) = 40
                count(3) = 40
                40 x close(i, 2) = 1
                count(1) = 40
                count(2) = 0
                count(4) = 0
                30 x rule(0, 0, 1000, 0, 0) = 0 on
                count(5) = 30
                20 x slow(i, 1) = 1
                count(6) = 20
                """);
        Edge.holds("4 QUARRELS", """
                defect(0, 0, 0, 0, 0, 0) = 0
                look(0, 999, 0) = 0
                look(0, 0, 0) = 0
                look(0, 999, 0) = 0
                look(0, 998, 0) = 0
                count(4) = 4
                look(0, 998, 0) = 1
                look(0, 0, 51) = -6
                count(4) = 4
                count(3) = 6
                """);
        Edge.holds("7 TRAINS, 8 LINES, 9 JOBS", """
                24 x train(0, 1) = 0 on
                8 x line(0, 0, 0) = 0 on
                8 x job(1, 0, 0) = 0 on
                train(0, 1) = -6
                line(0, 0, 0) = -6
                job(1, 0, 0) = -6
                count(7) = 24
                count(8) = 8
                count(9) = 8
                """);
    }
}
