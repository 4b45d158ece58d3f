/** Promises 1 to 7 and 17: a new object, days, growth, defects, looks, spans, days that pass. */
public final class SpansTest {
    public static void main(String[] args) {
        newObject();
        day();
        dayRefusals();
        dayOf();
        growth();
        growthIsThatOfTheDayThatPasses();
        defect();
        defectRefusals();
        defectsHaveAnEnd();
        look();
        looksHaveAnEnd();
        span();
        days();
        Check.end("SpansTest");
    }

    private static void newObject() {
        LineWalkers x = new LineWalkers();
        for (int what = 0; what <= 16; what++) {
            Check.due("new: count(" + what + ")", x.count(what), what == 10 ? -9 : 0);
        }
        Check.due("new: dayOf tons", x.dayOf(0, 0), 30);
        Check.due("new: dayOf cold", x.dayOf(1000, 1), 10);
        for (int kind = 0; kind < 4; kind++) {
            Check.due("new: growth", x.growth(kind, 0), 10);
        }
        for (int mile = 0; mile < 20; mile++) {
            Check.due("new: risk", x.risk(mile), 0);
            Check.due("new: heat", x.heat(mile), 0);
            Check.due("new: lot of a mile", x.rail(mile, 1, 0), 0);
            Check.due("new: eyes", x.eyes(mile, 0), -9);
        }
        Check.due("new: lost", x.lost(), 0);
        Check.due("new: overdue", x.overdue(), 0);
        Check.due("new: worst", x.worst(), -9);
        Check.due("new: sure", x.sure(), 0);
        Check.due("new: join", x.join(0), 0);
        Check.due("new: plan", x.plan(0), 0);
        LineWalkers other = new LineWalkers();
        other.defect(0, 0, 0, 0, 1, 1);
        Check.due("two objects are apart", x.count(1), 0);
    }

    private static void day() {
        LineWalkers x = new LineWalkers();
        Check.due("tons at first", x.day(0, 0, 99), -1);
        Check.due("tons then", x.day(0, 0, 0), 99);
        Check.due("tons missing again", x.day(0, 0, -1), 0);
        Check.due("tons were missing", x.day(0, 0, 5), -1);
        Check.due("cold is apart", x.day(0, 1, 40), -1);
        Check.due("cold then", x.day(0, 1, 0), 40);
        Check.due("the last day", x.day(1000, 0, 7), -1);
        Check.due("the last day counts", x.dayOf(1000, 0), 7);
        x.days(3);
        Check.due("the day of now has not passed", x.day(3, 0, 1), -1);
    }

    private static void dayRefusals() {
        LineWalkers x = new LineWalkers();
        x.day(4, 0, 12);
        x.days(2);
        Check.refusedAsTold(x, "day -1", -1, () -> x.day(-1, 2, -2));
        Check.refusedAsTold(x, "day 1001", -1, () -> x.day(1001, -1, 100));
        Check.refusedAsTold(x, "what -1", -2, () -> x.day(0, -1, -2));
        Check.refusedAsTold(x, "what 2", -2, () -> x.day(4, 2, 100));
        Check.refusedAsTold(x, "a passed day", -3, () -> x.day(1, 0, -2));
        Check.refusedAsTold(x, "v -2", -4, () -> x.day(4, 0, -2));
        Check.refusedAsTold(x, "tons 100", -6, () -> x.day(4, 0, 100));
        Check.refusedAsTold(x, "cold 41", -6, () -> x.day(4, 1, 41));
        Check.refusedAsTold(x, "v least int", -4, () -> x.day(4, 1, Integer.MIN_VALUE));
        Check.refusedAsTold(x, "v greatest int", -6, () -> x.day(4, 1, Integer.MAX_VALUE));
        Check.refusedAsTold(x, "day least int", -1, () -> x.day(Integer.MIN_VALUE, 0, 0));
    }

    private static void dayOf() {
        LineWalkers x = new LineWalkers();
        x.day(3, 0, 20);
        x.day(5, 0, 8);
        x.day(3, 1, 0);
        Check.due("told", x.dayOf(5, 0), 8);
        Check.due("days behind don't count", x.dayOf(2, 0), 30);
        Check.due("greatest of those ahead", x.dayOf(10, 0), 20);
        Check.due("the eighth day ahead doesn't count", x.dayOf(11, 0), 8);
        Check.due("the seventh day ahead does", x.dayOf(12, 0), 8);
        Check.due("none of seven", x.dayOf(13, 0), 30);
        Check.due("a told 0 counts", x.dayOf(4, 1), 0);
        Check.due("none of cold", x.dayOf(11, 1), 10);
        x.days(5);
        Check.due("a passed day may be asked for", x.dayOf(3, 0), 20);
        Check.refused(x, "dayOf(-1, 5)", -1, () -> x.dayOf(-1, 5));
        Check.refused(x, "dayOf(1001, 0)", -1, () -> x.dayOf(1001, 0));
        Check.refused(x, "dayOf(0, 2)", -2, () -> x.dayOf(0, 2));
        Check.refused(x, "dayOf(0, -1)", -2, () -> x.dayOf(0, -1));
    }

    private static void growth() {
        LineWalkers x = new LineWalkers();
        Check.due("growth at first", x.growth(3, 50), 10);
        Check.due("growth then", x.growth(3, 0), 50);
        Check.due("growth 0", x.growth(3, 7), 0);
        Check.due("other kinds are apart", x.growth(2, 7), 10);
        Check.refused(x, "kind 4", -1, () -> x.growth(4, -1));
        Check.refused(x, "kind -1", -1, () -> x.growth(-1, 51));
        Check.refused(x, "g -1", -4, () -> x.growth(0, -1));
        Check.refused(x, "g 51", -6, () -> x.growth(0, 51));
    }

    private static void growthIsThatOfTheDayThatPasses() {
        LineWalkers x = new LineWalkers();
        x.day(0, 0, 99);
        x.day(0, 1, 14);
        x.day(1, 0, 33);
        x.day(1, 1, 15);
        x.day(2, 0, 0);
        x.day(2, 1, 40);
        x.growth(1, 50);
        x.growth(2, 0);
        x.defect(0, 0, 0, 0, 0, 0);
        x.defect(0, 0, 0, 1, 0, 0);
        x.defect(0, 0, 0, 2, 0, 0);
        x.days(1);
        Check.due("99 tons by 10", x.span(0, 1), 10);
        Check.due("99 tons by 50", x.span(1, 1), 50);
        Check.due("99 tons by 0", x.span(2, 1), 1);
        x.growth(0, 1);
        x.growth(1, 11);
        Check.due("what has grown stays", x.span(0, 1), 10);
        x.days(1);
        Check.due("33 tons by 1 in the cold: 33 and 16", x.span(0, 1), 11);
        Check.due("33 tons by 11 in the cold: 363 and 181", x.span(1, 1), 56);
        x.days(1);
        Check.due("no tons", x.span(1, 1), 57);
        x.days(1);
        Check.due("missing: 99 tons, 40 cold", x.span(1, 1), 57 + 1 + (1089 + 544) / 100);
        Check.due("the least stays", x.span(1, 0), 0);
    }

    private static void defect() {
        LineWalkers x = new LineWalkers();
        Check.due("first", x.defect(0, 0, 0, 0, 0, 0), 0);
        Check.due("last of all", x.defect(19, 1759, 1, 3, 999, 50), 1);
        Check.due("greatest", x.span(1, 1), 1049);
        Check.due("least", x.span(1, 0), 949);
        Check.due("least is 0 at least", x.defect(0, 0, 0, 0, 10, 11), 2);
        Check.due("least 0", x.span(2, 0), 0);
        Check.due("greatest 21", x.span(2, 1), 21);
        Check.due("a look each", x.count(3), 3);
        Check.due("no quarrel", x.count(4), 0);
        Check.due("open", x.count(2), 3);
    }

    private static void defectRefusals() {
        LineWalkers x = new LineWalkers();
        x.defect(0, 0, 0, 3, 1, 1);
        Check.refused(x, "mile 20", -1, () -> x.defect(20, -1, 0, 0, 0, 0));
        Check.refused(x, "mile -1", -1, () -> x.defect(-1, 1760, 0, 0, 0, 0));
        Check.refused(x, "kind 4", -1, () -> x.defect(0, -1, 2, 4, 1000, 51));
        Check.refused(x, "kind -1", -1, () -> x.defect(0, 0, 0, -1, 0, 0));
        Check.refused(x, "yard -1", -4, () -> x.defect(0, -1, 2, 3, 1000, 51));
        Check.refused(x, "side -1", -4, () -> x.defect(0, 1760, -1, 3, 0, 0));
        Check.refused(x, "size -1", -4, () -> x.defect(0, 0, 2, 3, -1, 0));
        Check.refused(x, "doubt -1", -4, () -> x.defect(0, 0, 0, 3, 1000, -1));
        Check.refused(x, "yard 1760", -6, () -> x.defect(0, 1760, 0, 3, 0, 0));
        Check.refused(x, "side 2", -6, () -> x.defect(0, 0, 2, 3, 0, 0));
        Check.refused(x, "size 1000", -6, () -> x.defect(0, 0, 0, 3, 1000, 0));
        Check.refused(x, "doubt 51", -6, () -> x.defect(0, 0, 0, 3, 0, 51));
    }

    private static void defectsHaveAnEnd() {
        LineWalkers x = new LineWalkers();
        for (int i = 0; i < 40; i++) {
            Check.due("defect", x.defect(i % 20, i, 0, 0, 1, 1), i);
        }
        x.close(0, 2);
        Check.refused(x, "defect 41, one closed", -6, () -> x.defect(0, 0, 0, 0, 0, 0));
        Check.refused(x, "no mile goes before no room", -1, () -> x.defect(20, 0, 0, 0, 0, 0));
        Check.due("looks go on", x.look(1, 1, 1), 1);

        LineWalkers y = new LineWalkers();
        y.defect(0, 0, 0, 0, 1, 1);
        for (int i = 1; i < 120; i++) {
            Check.due("look", y.look(0, 1, 1), 1);
        }
        Check.refused(y, "no look is left for a defect", -6, () -> y.defect(0, 0, 0, 0, 0, 0));
    }

    private static void look() {
        LineWalkers x = new LineWalkers();
        x.defect(0, 0, 0, 0, 50, 10);
        Check.due("a look cuts", x.look(0, 60, 5), 1);
        Check.due("least", x.span(0, 0), 55);
        Check.due("greatest", x.span(0, 1), 60);
        Check.due("a look that only touches", x.look(0, 50, 5), 1);
        Check.due("least", x.span(0, 0), 55);
        Check.due("greatest", x.span(0, 1), 55);
        Check.due("a look below", x.look(0, 50, 4), 0);
        Check.due("least", x.span(0, 0), 46);
        Check.due("greatest", x.span(0, 1), 54);
        Check.due("a look above", x.look(0, 70, 15), 0);
        Check.due("least", x.span(0, 0), 55);
        Check.due("greatest", x.span(0, 1), 85);
        Check.due("a look that touches from above", x.look(0, 90, 5), 1);
        Check.due("least", x.span(0, 0), 85);
        Check.due("a look below", x.look(0, 70, 14), 0);
        Check.due("a look that is wider", x.look(0, 70, 50), 1);
        Check.due("greatest stays", x.span(0, 1), 84);
        Check.due("the greatest look of all", x.look(0, 999, 50), 0);
        Check.due("greatest", x.span(0, 1), 1049);
        Check.due("looks", x.count(3), 9);
        Check.due("quarrels", x.count(4), 4);
        x.defect(0, 0, 0, 0, 5, 5);
        x.close(1, 2);
        Check.refused(x, "no defect", -1, () -> x.look(2, -1, 0));
        Check.refused(x, "defect -1", -1, () -> x.look(-1, 0, 0));
        Check.refused(x, "a closed one", -3, () -> x.look(1, -1, 51));
        Check.refused(x, "size -1", -4, () -> x.look(0, -1, 51));
        Check.refused(x, "doubt -1", -4, () -> x.look(0, 1000, -1));
        Check.refused(x, "size 1000", -6, () -> x.look(0, 1000, 0));
        Check.refused(x, "doubt 51", -6, () -> x.look(0, 0, 51));
    }

    private static void looksHaveAnEnd() {
        LineWalkers x = new LineWalkers();
        for (int i = 0; i < 40; i++) {
            x.defect(0, 0, 0, 0, 1, 1);
        }
        for (int i = 0; i < 80; i++) {
            x.look(i % 40, 1, 1);
        }
        Check.due("looks", x.count(3), 120);
        Check.refused(x, "look 121", -6, () -> x.look(5, 1, 1));
        Check.refused(x, "below goes before", -4, () -> x.look(5, -1, 1));
    }

    private static void span() {
        LineWalkers x = new LineWalkers();
        x.defect(0, 0, 0, 0, 8, 3);
        x.days(2);
        Check.due("least", x.span(0, 0), 5);
        Check.due("30 tons by 10, twice", x.span(0, 1), 19);
        Check.refused(x, "no defect", -1, () -> x.span(1, 2));
        Check.refused(x, "defect -1", -1, () -> x.span(-1, 0));
        Check.refused(x, "what 2", -2, () -> x.span(0, 2));
        Check.refused(x, "what -1", -2, () -> x.span(0, -1));
        x.close(0, 3);
        Check.refused(x, "what goes before closed", -2, () -> x.span(0, 2));
        Check.refused(x, "closed", -3, () -> x.span(0, 0));
        x.defect(0, 0, 0, 0, 0, 0);
        x.growth(0, 50);
        x.days(998);
        Check.due("it grows without an end", x.span(1, 1), 998 * 16);
    }

    private static void days() {
        LineWalkers x = new LineWalkers();
        Check.due("one", x.days(1), 1);
        Check.refused(x, "days(0)", -4, () -> x.days(0));
        Check.refused(x, "days(least int)", -4, () -> x.days(Integer.MIN_VALUE));
        Check.refused(x, "days(1000)", -6, () -> x.days(1000));
        Check.refused(x, "days(greatest int)", -6, () -> x.days(Integer.MAX_VALUE));
        Check.due("999 more", x.days(999), 1000);
        Check.due("count", x.count(0), 1000);
        Check.refused(x, "one more", -6, () -> x.days(1));
        Check.due("tons of the last day", x.day(1000, 0, 3), -1);
    }
}
