/** The boundaries of part II of the document, promises 8 to 16, a sentence each. */
public final class RulesEdgesTest {
    public static void main(String[] args) {
        rules();
        inForce();
        bestOfSeveral();
        due();
        dueByLatestLooks();
        overdue();
        slowOrders();
        liftByRules();
        liftByHeat();
        lost();
        close();
        settings();
        Check.end("RulesEdgesTest");
    }

    private static void rules() {
        Edge.holds("RULES have numbers from 0 on (30 at most)", """
                29 x rule(0, i, 0, 0, 0) = 0 on
                rule(3, 999, 1000, 3, 60) = 29
                rule(0, 0, 0, 0, 0) = -6
                rule(0, 0, 0, 0, -1) = -4
                rule(0, 0, 0, 4, 0) = -2
                rule(4, 0, 0, 0, 0) = -1
                count(5) = 30
                """);
        Edge.holds("of a KIND, from a SIZE on (0 .. 999)", """
                rule(0, 0, 0, 0, 0) = 0
                rule(3, 999, 0, 0, 0) = 1
                rule(-1, 0, 0, 0, 0) = -1
                rule(4, 0, 0, 0, 0) = -1
                rule(MIN, 0, 0, 0, 0) = -1
                rule(MAX, 0, 0, 0, 0) = -1
                rule(0, -1, 0, 0, 0) = -4
                rule(0, MIN, 0, 0, 0) = -4
                rule(0, 1000, 0, 0, 0) = -6
                rule(0, MAX, 0, 0, 0) = -6
                """);
        Edge.holds("from a DAY on (now or later)", """
                rule(0, 0, -1, 0, 0) = -4
                rule(0, 0, 0, 0, 0) = 0
                days(5)
                rule(0, 0, 4, 0, 0) = -4
                rule(0, 0, 0, 0, 0) = -4
                rule(0, 0, MIN, 0, 0) = -4
                rule(0, 0, 5, 0, 0) = 1
                rule(0, 0, 6, 0, 0) = 2
                rule(0, 0, 1000, 0, 0) = 3
                rule(0, 0, 1001, 0, 0) = -6
                rule(0, 0, MAX, 0, 60) = -6
                days(995)
                rule(0, 0, 999, 0, 0) = -4
                rule(0, 0, 1000, 0, 0) = 4
                rule(0, 0, 1001, 0, 0) = -6
                """);
        Edge.holds("an ACT (0 watch, 1 slow, 2 clamp, 3 change), within so many DAYS (0 .. 60)", """
                4 x rule(0, 0, 0, i, 0) = 0 on
                rule(0, 0, 0, -1, 0) = -2
                rule(0, 0, 0, 4, 0) = -2
                rule(0, 0, 0, MIN, 0) = -2
                rule(0, 0, 0, MAX, 0) = -2
                rule(0, 0, 0, 0, 60) = 4
                rule(0, 0, 0, 0, 61) = -6
                rule(0, 0, 0, 0, MAX) = -6
                rule(0, 0, 0, 0, -1) = -4
                rule(0, 0, 0, 0, MIN) = -4
                """);
        Edge.holds("A RULE: its number. -1; -2 ACT; -4 (DAY ahead of now, too); -6 (30, too)", """
                days(1)
                rule(4, -1, 0, 4, -1) = -1
                rule(0, -1, 0, 4, -1) = -2
                rule(0, 1000, 0, 0, 61) = -4
                rule(0, -1, 1001, 0, 61) = -4
                rule(0, 1000, 1001, 0, -1) = -4
                rule(0, 1000, 1, 0, 0) = -6
                rule(0, 0, 1001, 0, 0) = -6
                rule(0, 0, 1, 0, 61) = -6
                rule(0, 0, 1, 0, 0) = 0
                """);
    }

    private static void inForce() {
        Edge.holds("whose DAY is not behind now", """
                rule(0, 0, 2, 0, 0) = 0
                defect(0, 0, 0, 0, 5, 0) = 0
                force(0) = -9
                days(1)
                force(0) = -9
                days(1)
                force(0) = 0
                days(1)
                force(0) = 0
                rule(0, 0, 1000, 0, 0) = 1
                days(996)
                force(0) = 0
                days(1)
                force(0) = 1
                """);
        Edge.holds("whose SIZE is not above the greatest of its SPAN", """
                defect(0, 0, 0, 0, 20, 5) = 0
                rule(0, 26, 0, 0, 0) = 0
                force(0) = -9
                rule(0, 25, 0, 0, 0) = 1
                force(0) = 1
                days(1)
                force(0) = 0
                look(0, 0, 24) = 1       # cut to 15 .. 24
                force(0) = -9
                """);
        Edge.holds("RULES of its KIND: a SIZE of 0, one of 999", """
                4 x rule(i, 0, 0, 0, 0) = 0 on
                4 x defect(0, 0, 0, i, 0, 0) = 0 on
                4 x force(i) = 0 on
                defect(0, 0, 0, 2, 949, 49) = 4
                rule(2, 999, 0, 0, 0) = 4
                force(4) = 2
                look(4, 949, 50) = 1
                force(4) = 2
                look(4, 999, 0) = 0
                force(4) = 4
                force(2) = 2
                force(3) = 3
                """);
        Edge.holds("The RULE in force for a DEFECT; -9 none. -1; -3", """
                force(0) = -1
                defect(0, 0, 0, 0, 5, 0) = 0
                force(0) = -9
                force(1) = -1
                force(-1) = -1
                force(MIN) = -1
                force(MAX) = -1
                close(0, 2) = 1
                force(0) = -3
                """);
    }

    private static void bestOfSeveral() {
        Edge.holds("that of the greatest SIZE, of several the latest DAY, then the greatest number", """
                defect(0, 0, 0, 0, 50, 0) = 0
                rule(0, 10, 0, 0, 0) = 0
                rule(0, 10, 0, 0, 0) = 1
                force(0) = 1             # the greatest number
                rule(0, 10, 2, 0, 0) = 2
                rule(0, 10, 1, 0, 0) = 3
                force(0) = 1
                days(1)
                force(0) = 3             # the latest DAY that has come
                days(1)
                force(0) = 2             # the latest DAY, though its number is less
                rule(0, 9, 2, 0, 0) = 4
                force(0) = 2
                rule(0, 11, 2, 0, 0) = 5
                force(0) = 5             # the greatest SIZE
                rule(0, 10, 2, 0, 0) = 6
                force(0) = 5
                """);
        Edge.holds("the greatest SIZE goes ahead of a later DAY and a greater number", """
                defect(0, 0, 0, 0, 50, 0) = 0
                rule(0, 20, 0, 0, 0) = 0
                rule(0, 19, 3, 0, 0) = 1
                days(5)
                force(0) = 0
                rule(0, 20, 5, 0, 0) = 2
                rule(0, 20, 5, 0, 0) = 3
                force(0) = 3
                """);
    }

    private static void due() {
        Edge.holds("DUE of a DEFECT; -9 nothing is. -1; -3", """
                due(0) = -1
                defect(0, 0, 0, 0, 5, 0) = 0
                due(0) = -9
                due(1) = -1
                due(-1) = -1
                due(MIN) = -1
                due(MAX) = -1
                rule(0, 6, 0, 0, 0) = 0
                due(0) = -9
                rule(0, 5, 0, 0, 0) = 1
                due(0) = 0
                close(0, 2) = 1
                due(0) = -3
                """);
        Edge.holds("that DAY and its DAYS", """
                rule(0, 0, 0, 0, 0) = 0
                rule(1, 0, 0, 0, 60) = 1
                days(1000)
                defect(0, 0, 0, 0, 5, 0) = 0
                defect(0, 0, 0, 1, 5, 0) = 1
                due(0) = 1000
                due(1) = 1060            # it may be beyond the last DAY
                overdue() = 0
                """);
        Edge.holds("(Without a RULE: nothing is DUE.)", """
                40 x defect(0, 0, 0, 1, 999, 50) = 0 on
                rule(0, 0, 0, 0, 0) = 0
                rule(1, 0, 1000, 0, 0) = 1
                days(999)
                due(0) = -9
                due(39) = -9
                overdue() = 0
                """);
    }

    private static void dueByLatestLooks() {
        Edge.holds("or, if the latest one did not, since now", """
                defect(0, 0, 0, 0, 5, 0) = 0
                rule(0, 0, 0, 0, 4) = 0
                due(0) = 4               # the LOOK was ahead of the RULE
                days(3)
                due(0) = 7
                look(0, 5, 20) = 1
                days(3)
                due(0) = 7               # noted on DAY 3
                rule(0, 0, 6, 0, 2) = 1
                due(0) = 8               # another RULE, which no LOOK noted
                days(1)
                due(0) = 9
                """);
        Edge.holds("since the first of the latest LOOKS, one behind the other, that all noted it", """
                rule(0, 10, 0, 0, 9) = 0
                rule(0, 40, 0, 0, 1) = 1
                defect(0, 0, 0, 0, 20, 0) = 0
                days(1)
                look(0, 20, 0) = 1
                days(1)
                look(0, 20, 0) = 1
                due(0) = 9               # since DAY 0
                days(1)
                look(0, 50, 0) = 0
                due(0) = 4               # RULE 1 since DAY 3
                days(1)
                look(0, 20, 0) = 0
                due(0) = 13              # RULE 0 since DAY 4: one behind the other
                days(1)
                look(0, 24, 0) = 1
                due(0) = 13
                look(0, 0, 0) = 0
                due(0) = -9              # none noted
                look(0, 24, 0) = 0
                due(0) = 14              # RULE 0 since DAY 5
                """);
        Edge.holds("a RULE that growth brings and a LOOK takes away again is not noted", """
                rule(0, 10, 0, 0, 9) = 0
                rule(0, 24, 0, 0, 1) = 1
                defect(0, 0, 0, 0, 20, 0) = 0
                due(0) = 9
                days(1)
                due(0) = 2               # RULE 1 since now
                days(1)
                due(0) = 3
                look(0, 20, 0) = 1
                due(0) = 9               # the LOOKS of DAY 0 and DAY 2 both noted RULE 0
                """);
        Edge.holds("it is noted behind each LOOK, with the SPAN as that LOOK leaves it", """
                rule(0, 10, 0, 0, 9) = 0
                defect(0, 0, 0, 0, 5, 10) = 0
                look(0, 0, 9) = 1
                days(1)
                force(0) = 0             # 9 and 4
                due(0) = 10              # the latest LOOK noted none
                look(0, 10, 0) = 1
                days(1)
                due(0) = 10
                """);
        Edge.holds("a refused LOOK notes nothing", """
                defect(0, 0, 0, 0, 5, 0) = 0
                rule(0, 0, 0, 0, 4) = 0
                look(0, 1000, 0) = -6
                look(0, -1, 0) = -4
                days(2)
                due(0) = 6               # since now
                look(0, 0, 51) = -6
                days(1)
                due(0) = 7
                look(0, 5, 0) = 1
                days(1)
                due(0) = 7               # noted on DAY 3
                """);
        Edge.holds("LOOKS at another DEFECT are not between", """
                rule(0, 10, 0, 0, 9) = 0
                defect(0, 0, 0, 0, 20, 0) = 0
                defect(0, 0, 0, 0, 0, 0) = 1
                days(1)
                look(1, 4, 0) = 1
                look(0, 20, 0) = 1
                due(0) = 9
                due(1) = -9
                """);
    }

    private static void overdue() {
        Edge.holds("OVERDUE: DUE is below now", """
                rule(0, 0, 0, 0, 2) = 0
                rule(1, 0, 0, 0, 0) = 1
                overdue() = 0            # no DEFECT
                defect(0, 0, 0, 0, 5, 0) = 0
                defect(0, 0, 0, 1, 5, 0) = 1
                overdue() = 0
                days(1)
                overdue() = 1            # DUE 0 is below 1
                days(1)
                overdue() = 1            # DUE 2 is not below 2
                days(1)
                overdue() = 2
                """);
        Edge.holds("How many OPEN DEFECTS are OVERDUE", """
                rule(0, 0, 0, 0, 0) = 0
                40 x defect(0, 0, 0, 0, 5, 0) = 0 on
                days(1)
                overdue() = 40
                close(0, 2) = 1
                close(39, 3) = 1
                overdue() = 38
                """);
        Edge.holds("since now is never OVERDUE", """
                defect(0, 0, 0, 0, 5, 0) = 0
                rule(0, 0, 0, 0, 0) = 0
                days(1000)
                due(0) = 1000
                overdue() = 0
                """);
    }

    private static void slowOrders() {
        Edge.holds("put on (told) with MINUTES (1 .. 30)", """
                slow(0, 1) = 1
                slow(19, 30) = 1
                slow(1, 0) = -4
                slow(1, -1) = -4
                slow(1, MIN) = -4
                slow(1, 31) = -6
                slow(1, MAX) = -6
                count(6) = 2
                days(1)
                lost() = 310
                """);
        Edge.holds("A SLOW ORDER is put on a MILE: 1. -1; -3 there is one; -4; -6", """
                slow(3, 5) = 1
                slow(-1, 0) = -1
                slow(20, 31) = -1
                slow(MIN, 1) = -1
                slow(MAX, 1) = -1
                slow(3, 0) = -3
                slow(3, 31) = -3
                slow(3, 5) = -3
                slow(4, 0) = -4
                slow(4, 31) = -6
                days(1)
                lost() = 50
                lift(3) = 1
                slow(3, 6) = 1           # anew behind a lift
                days(1)
                lost() = 110
                """);
        Edge.holds("SLOW ORDERS that stand, on all MILES", """
                20 x slow(i, 30) = 1
                count(6) = 20
                20 x slow(i, 1) = -3
                20 x lift(i) = 1
                count(6) = 0
                20 x lift(i) = -3
                """);
        Edge.holds("It is lifted: 1; 0: it may not be. -1; -3 there is none", """
                lift(0) = -3
                lift(-1) = -1
                lift(20) = -1
                lift(MIN) = -1
                lift(MAX) = -1
                slow(0, 1) = 1
                lift(1) = -3
                rail(0, 0, 50)
                lift(0) = 0
                count(6) = 1
                lift(0) = 0              # no refusal: it still stands
                rail(0, 0, 10)
                lift(0) = 1
                lift(0) = -3
                """);
    }

    private static void liftByRules() {
        Edge.holds("only if no OPEN DEFECT of that MILE has a RULE in force of an ACT 1 or more", """
                4 x rule(i, 10, 0, i, 0) = 0 on
                4 x defect(i, 0, 0, i, 10, 0) = 0 on
                4 x slow(i, 1) = 1
                lift(0) = 1              # ACT 0
                lift(1) = 0
                lift(2) = 0
                lift(3) = 0
                look(1, 9, 0) = 0        # below the RULE
                lift(1) = 1
                close(2, 2) = 1
                lift(2) = 1
                close(3, 3) = 1
                lift(3) = 1
                """);
        Edge.holds("no OPEN DEFECT: neither the first nor the last of the MILE, of that MILE alone", """
                rule(0, 10, 0, 1, 0) = 0
                slow(5, 1) = 1
                slow(6, 1) = 1
                defect(5, 0, 0, 1, 10, 0) = 0
                38 x defect(4, 0, 0, 0, 10, 0) = 1 on
                defect(6, 0, 0, 0, 10, 0) = 39
                lift(5) = 1
                lift(6) = 0
                close(39, 2) = 1
                lift(6) = 1
                """);
        Edge.holds("a RULE that is not in force yet", """
                rule(0, 10, 2, 3, 0) = 0
                defect(5, 0, 0, 0, 10, 0) = 0
                days(1)
                slow(5, 1) = 1
                lift(5) = 1
                slow(5, 1) = 1
                days(1)
                lift(5) = 0
                rule(0, 11, 2, 0, 0) = 1
                lift(5) = 1              # the RULE in force is one of ACT 0
                """);
    }

    private static void liftByHeat() {
        Edge.holds("and its HEAT (IV) is no more than 20", """
                slow(0, 1) = 1
                set(3, 31) = 10
                lift(0) = 0
                set(3, 30) = 31
                lift(0) = 1
                slow(0, 1) = 1
                set(3, -11) = 30
                lift(0) = 0
                set(3, -10) = -11
                lift(0) = 1
                slow(19, 1) = 1
                rail(19, 0, 11) = 10
                lift(19) = 0
                rail(19, 0, 10) = 11
                lift(19) = 1
                """);
        Edge.holds("both must hold", """
                rule(0, 0, 0, 1, 0) = 0
                defect(2, 0, 0, 0, 1, 0) = 0
                slow(2, 1) = 1
                set(3, 50) = 10
                lift(2) = 0
                set(3, 10) = 50
                lift(2) = 0
                set(3, 50) = 10
                close(0, 2) = 1
                lift(2) = 0
                set(3, 30) = 50
                lift(2) = 1
                """);
    }

    private static void lost() {
        Edge.holds("LOST: MINUTES times TRAINS for each DAY on which it stood as the DAY passed", """
                lost() = 0
                slow(3, 7) = 1
                lost() = 0               # no DAY has passed
                lift(3) = 1
                days(1)
                lost() = 0               # it did not stand as the DAY passed
                slow(3, 7) = 1
                days(1)
                lost() = 70
                days(3)
                lost() = 280
                lift(3) = 1
                days(1)
                lost() = 280
                """);
        Edge.holds("TRAINS (0 .. 99; 10 at first)", """
                slow(0, 3) = 1
                days(1)
                lost() = 30
                set(0, 0) = 10
                days(1)
                lost() = 30
                set(0, 99) = 0
                days(1)
                lost() = 327
                set(0, 100) = 1000000006
                set(0, -1) = 1000000004
                days(1)
                lost() = 624
                """);
        Edge.holds("the greatest LOST of all", """
                set(0, 99) = 10
                20 x slow(i, 30) = 1
                days(1000) = 1000
                lost() = 59400000
                """);
    }

    private static void close() {
        Edge.holds("A DEFECT is CLOSED by an ACT 2 or 3 (told)", """
                4 x defect(0, 0, 0, 0, 5, 0) = 0 on
                close(0, 1) = -2
                close(0, 0) = -2
                close(0, 4) = -2
                close(0, -1) = -2
                close(0, MIN) = -2
                close(0, MAX) = -2
                count(2) = 4
                close(0, 2) = 1
                close(3, 3) = 1
                count(2) = 2
                count(1) = 4
                """);
        Edge.holds("A DEFECT is CLOSED by an ACT (2, 3): 1. -1; -2 another ACT; -3 it is", """
                close(0, 2) = -1
                defect(0, 0, 0, 0, 5, 0) = 0
                close(1, 1) = -1
                close(-1, 1) = -1
                close(MIN, 2) = -1
                close(MAX, 2) = -1
                close(0, 2) = 1
                close(0, 4) = -2
                close(0, 1) = -2
                close(0, 2) = -3
                set(3, 50) = 10
                close(0, 3) = -3
                heat(0) = 40             # a refused ACT 3 lays no RAIL
                """);
        Edge.holds("by 3 the RAIL of its MILE is laid anew at the WARMTH of now", """
                defect(0, 0, 0, 0, 5, 0) = 0
                defect(19, 0, 0, 0, 5, 0) = 1
                defect(7, 0, 0, 0, 5, 0) = 2
                rail(7, 1, 4) = 0
                set(3, -30) = 10
                close(0, 2) = 1
                heat(0) = 40
                close(1, 3) = 1
                heat(19) = 0
                heat(18) = 40
                set(3, 50) = -30
                heat(19) = 80
                close(2, 3) = 1
                heat(7) = 0
                rail(7, 0, 0) = 50
                rail(7, 1, 0) = 4        # its LOT stays
                """);
    }

    private static void settings() {
        Edge.holds("TRAINS a day for LOST (what 0), STEP (1), OFF (2), WARMTH (3) becomes v: what it was", """
                set(0, 0) = 10
                set(0, 99) = 0
                set(0, -1) = 1000000004
                set(0, 100) = 1000000006
                set(0, 5) = 99
                set(1, 10) = 30
                set(1, 60) = 10
                set(1, 9) = 1000000004
                set(1, 61) = 1000000006
                set(1, 30) = 60
                set(2, 0) = 40
                set(2, 200) = 0
                set(2, -1) = 1000000004
                set(2, 201) = 1000000006
                set(2, 40) = 200
                set(3, -30) = 10
                set(3, 50) = -30
                set(3, -31) = 1000000004
                set(3, 51) = 1000000006
                set(3, -1) = 50
                set(3, 0) = -1           # an answer below 0 that is no refusal
                """);
        Edge.holds("Refused as told: -2; -4; -6", """
                set(-1, -31) = 1000000002
                set(4, 201) = 1000000002
                set(MIN, 0) = 1000000002
                set(MAX, 0) = 1000000002
                4 x set(i, MIN) = 1000000004
                4 x set(i, MAX) = 1000000006
                """);
    }
}
