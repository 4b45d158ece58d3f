/**
 * Walkers on the line. The promises stand in ../shared/DOC.md; every method tests its arguments in the
 * order in which its promise tells the refusals, so that nothing has changed when one is answered.
 * All rows are made with the object: no call makes anything.
 */
public final class LineWalkers {
    private static final int FINE = 0;
    private static final int NOBODY = -1;
    private static final int OTHER = -2;
    private static final int STATE = -3;
    private static final int BELOW = -4;
    private static final int ROOM = -6;
    private static final int NONE = -9;
    private static final int AS_TOLD = 1000000000;

    private static final int LAST_DAY = 1000;
    private static final int MILES = 20;
    private static final int LAST_YARD = 1759;
    private static final int LAST_SIDE = 1;
    private static final int KINDS = 4;
    private static final int CRACK_KIND = 3;
    private static final int MOST_GROWTH = 50;
    private static final int MOST_SIZE = 999;
    private static final int MOST_DOUBT = 50;

    private static final int WATCH = 0;
    private static final int CLAMP = 2;
    private static final int CHANGE = 3;
    private static final int MOST_WITHIN = 60;
    private static final int MOST_SLOW_MINUTES = 30;
    private static final int MOST_HEAT_TO_LIFT = 20;

    private static final int MINUTES_OF_DAY = 1440;
    private static final int MOST_START = 1439;
    private static final int MOST_PACE = 9;
    private static final int MOST_MILES_OF_WALK = 10;
    private static final int MOST_FOUND = 99;

    private static final int MOST_HOURS = 40;
    private static final int MOST_DUE_HOUR = 400;
    private static final int ALL_TOOLS = 15;
    private static final int COLDEST = -30;
    private static final int WARMEST = 50;
    private static final int WARMTH_AT_FIRST = 10;

    private static final int TRAINS_A_DAY = 0;
    private static final int STEP = 1;
    private static final int OFF = 2;
    private static final int WARMTH = 3;
    private static final int[] LEAST_SETTINGS = {0, 10, 0, COLDEST};
    private static final int[] MOST_SETTINGS = {99, 60, 200, WARMEST};

    private int now = 0;
    private final int[] refusals = new int[7];
    private final int[] settings = {10, 30, 40, WARMTH_AT_FIRST};
    private final int[] growths = {10, 10, 10, 10};
    private final Readings tons = new Readings(30, 99);
    private final Readings cold = new Readings(10, 40);
    private final Defects defects = new Defects();
    private final RuleBook rules = new RuleBook();
    private final SlowOrders orders = new SlowOrders();
    private final Timetable trains = new Timetable();
    private final int[] lastWalked = new int[MILES];
    private final int[] risksBelow = new int[MILES + 1];
    private final Finds finds = new Finds();
    private final CarLines lines = new CarLines();
    private final Gangs gangs = new Gangs();
    private final Rails rails = new Rails();

    public LineWalkers() {
    }

    public int day(int day, int what, int v) {
        if (!isDay(day)) {
            return refuseAsTold(NOBODY);
        }
        if (what < 0 || what > 1) {
            return refuseAsTold(OTHER);
        }
        if (day < now) {
            return refuseAsTold(STATE);
        }
        Readings readings = readingsOf(what);
        if (v < Readings.MISSING) {
            return refuseAsTold(BELOW);
        }
        if (v > readings.most) {
            return refuseAsTold(ROOM);
        }
        return readings.tell(day, v);
    }

    public int dayOf(int day, int what) {
        if (!isDay(day)) {
            return refuse(NOBODY);
        }
        if (what < 0 || what > 1) {
            return refuse(OTHER);
        }
        return readingsOf(what).counted(day);
    }

    public int growth(int kind, int g) {
        if (!isKind(kind)) {
            return refuse(NOBODY);
        }
        if (g < 0) {
            return refuse(BELOW);
        }
        if (g > MOST_GROWTH) {
            return refuse(ROOM);
        }
        int was = growths[kind];
        growths[kind] = g;
        return was;
    }

    public int defect(int mile, int yard, int side, int kind, int size, int doubt) {
        if (!isMile(mile) || !isKind(kind)) {
            return refuse(NOBODY);
        }
        if (yard < 0 || side < 0 || size < 0 || doubt < 0) {
            return refuse(BELOW);
        }
        if (yard > LAST_YARD || side > LAST_SIDE || size > MOST_SIZE || doubt > MOST_DOUBT) {
            return refuse(ROOM);
        }
        if (defects.told >= Defects.MOST || defects.looks >= Defects.MOST_LOOKS) {
            return refuse(ROOM);
        }
        int number = defects.add(mile, yard, side, kind);
        defects.cutSpan(number, size, doubt);
        defects.note(number, ruleFor(number), now);
        if (kind == CRACK_KIND) {
            rails.addCrack(mile);
        }
        return number;
    }

    public int look(int defect, int size, int doubt) {
        int refusal = refusalOfOpenDefect(defect);
        if (refusal != FINE) {
            return refuse(refusal);
        }
        if (size < 0 || doubt < 0) {
            return refuse(BELOW);
        }
        if (size > MOST_SIZE || doubt > MOST_DOUBT || defects.looks >= Defects.MOST_LOOKS) {
            return refuse(ROOM);
        }
        boolean fits = defects.cutSpan(defect, size, doubt);
        defects.note(defect, ruleFor(defect), now);
        return fits ? 1 : 0;
    }

    public int span(int defect, int what) {
        if (!isDefect(defect)) {
            return refuse(NOBODY);
        }
        if (what < 0 || what > 1) {
            return refuse(OTHER);
        }
        if (!defects.open[defect]) {
            return refuse(STATE);
        }
        return what == 0 ? defects.least[defect] : defects.greatest[defect];
    }

    public int rule(int kind, int size, int day, int act, int within) {
        if (!isKind(kind)) {
            return refuse(NOBODY);
        }
        if (act < WATCH || act > CHANGE) {
            return refuse(OTHER);
        }
        if (size < 0 || day < now || within < 0) {
            return refuse(BELOW);
        }
        if (size > MOST_SIZE || day > LAST_DAY || within > MOST_WITHIN || rules.told >= RuleBook.MOST) {
            return refuse(ROOM);
        }
        return rules.add(kind, size, day, act, within);
    }

    public int force(int defect) {
        int refusal = refusalOfOpenDefect(defect);
        if (refusal != FINE) {
            return refuse(refusal);
        }
        return ruleFor(defect);
    }

    public int due(int defect) {
        int refusal = refusalOfOpenDefect(defect);
        if (refusal != FINE) {
            return refuse(refusal);
        }
        return dueDay(defect);
    }

    public int overdue() {
        int late = 0;
        for (int i = 0; i < defects.told; i++) {
            if (defects.open[i] && isOverdue(i)) {
                late++;
            }
        }
        return late;
    }

    public int close(int defect, int act) {
        if (!isDefect(defect)) {
            return refuse(NOBODY);
        }
        if (act != CLAMP && act != CHANGE) {
            return refuse(OTHER);
        }
        if (!defects.open[defect]) {
            return refuse(STATE);
        }
        defects.open[defect] = false;
        if (act == CHANGE) {
            rails.lay(defects.mile[defect], settings[WARMTH]);
        }
        return 1;
    }

    public int slow(int mile, int minutes) {
        if (!isMile(mile)) {
            return refuse(NOBODY);
        }
        if (orders.standsOn(mile)) {
            return refuse(STATE);
        }
        if (minutes < 1) {
            return refuse(BELOW);
        }
        if (minutes > MOST_SLOW_MINUTES) {
            return refuse(ROOM);
        }
        orders.minutes[mile] = minutes;
        return 1;
    }

    public int lift(int mile) {
        if (!isMile(mile)) {
            return refuse(NOBODY);
        }
        if (!orders.standsOn(mile)) {
            return refuse(STATE);
        }
        if (needsAct(mile) || heatOf(mile) > MOST_HEAT_TO_LIFT) {
            return 0;
        }
        orders.minutes[mile] = 0;
        return 1;
    }

    public int lost() {
        return orders.lostMinutes;
    }

    public int set(int what, int v) {
        if (what < TRAINS_A_DAY || what > WARMTH) {
            return refuseAsTold(OTHER);
        }
        if (v < LEAST_SETTINGS[what]) {
            return refuseAsTold(BELOW);
        }
        if (v > MOST_SETTINGS[what]) {
            return refuseAsTold(ROOM);
        }
        int was = settings[what];
        settings[what] = v;
        return was;
    }

    public int days(int n) {
        if (n < 1) {
            return refuse(BELOW);
        }
        if (n > LAST_DAY - now) {
            return refuse(ROOM);
        }
        for (int i = 0; i < n; i++) {
            passDay();
        }
        return now;
    }

    public int train(int start, int pace) {
        if (start < 0 || pace < 1) {
            return refuse(BELOW);
        }
        if (start > MOST_START || pace > MOST_PACE || trains.told >= Timetable.MOST) {
            return refuse(ROOM);
        }
        return trains.add(start, pace);
    }

    public int safe(int a, int b, int minute) {
        int refusal = refusalOfWalk(a, b, minute);
        if (refusal != FINE) {
            return refuse(refusal);
        }
        return trains.clearFrom(a, b, minute, settings[STEP]) == minute ? 1 : 0;
    }

    public int first(int a, int b, int minute) {
        int refusal = refusalOfWalk(a, b, minute);
        if (refusal != FINE) {
            return refuse(refusal);
        }
        return trains.firstSafe(a, b, minute, settings[STEP]);
    }

    public int walked(int a, int b) {
        if (!isRange(a, b)) {
            return refuse(NOBODY);
        }
        for (int mile = a; mile <= b; mile++) {
            lastWalked[mile] = now;
        }
        return b - a + 1;
    }

    public int risk(int mile) {
        if (!isMile(mile)) {
            return refuse(NOBODY);
        }
        return riskOf(mile);
    }

    public int walks(int n, int what) {
        if (what < 0 || what > 2) {
            return refuse(OTHER);
        }
        if (n < 1) {
            return refuse(BELOW);
        }
        if (n > MOST_MILES_OF_WALK) {
            return refuse(ROOM);
        }
        addUpRisks();
        int best = -1;
        int lower = 0;
        int upper = 0;
        for (int i = 0; i + 2 * n <= MILES; i++) {
            for (int j = i + n; j + n <= MILES; j++) {
                int together = riskOfRange(i, n) + riskOfRange(j, n);
                if (together > best) {
                    best = together;
                    lower = i;
                    upper = j;
                }
            }
        }
        return what == 0 ? best : what == 1 ? lower : upper;
    }

    public int doubles(int mile, int first, int second, int both) {
        if (!isMile(mile)) {
            return refuse(NOBODY);
        }
        if (first < 0 || second < 0 || both < 0) {
            return refuse(BELOW);
        }
        // each alone before the sums: a sum of anything larger could wrap around
        if (first > MOST_FOUND || second > MOST_FOUND || both > MOST_FOUND
                || !finds.hasRoom(mile, first, second, both)) {
            return refuse(ROOM);
        }
        finds.add(mile, first, second, both);
        return 1;
    }

    public int eyes(int mile, int what) {
        if (!isMile(mile)) {
            return refuse(NOBODY);
        }
        if (what < 0 || what > 1) {
            return refuse(OTHER);
        }
        return what == 0 ? finds.estimate(mile) : finds.missed(mile);
    }

    public int line(int mile, int yard, int side) {
        if (!isMile(mile)) {
            return refuse(NOBODY);
        }
        if (yard < 0 || side < 0) {
            return refuse(BELOW);
        }
        if (yard > LAST_YARD || side > LAST_SIDE || lines.told >= CarLines.MOST) {
            return refuse(ROOM);
        }
        return lines.add(mile, yard, side);
    }

    public int join(int what) {
        if (what < 0 || what > 1) {
            return refuse(OTHER);
        }
        long best = lines.bestJoining(defects, settings[OFF]);
        return what == 0 ? lines.joinedIn(best) : CarLines.yardsIn(best);
    }

    public int joined(int line) {
        if (line < 0 || line >= lines.told) {
            return refuse(NOBODY);
        }
        long best = lines.bestJoining(defects, settings[OFF]);
        return defects.openOne(CarLines.choiceIn(best, line));
    }

    public int job(int hours, int due, int tools) {
        if (hours < 1 || due < 0 || tools < 0) {
            return refuse(BELOW);
        }
        if (hours > MOST_HOURS || due > MOST_DUE_HOUR || tools > ALL_TOOLS || gangs.jobs >= Gangs.MOST_JOBS) {
            return refuse(ROOM);
        }
        return gangs.add(hours, due, tools);
    }

    public int gang(int gang, int tools) {
        if (gang < 0 || gang > 1) {
            return refuse(NOBODY);
        }
        if (tools < 0) {
            return refuse(BELOW);
        }
        if (tools > ALL_TOOLS) {
            return refuse(ROOM);
        }
        int was = gangs.toolsOfGang[gang];
        gangs.toolsOfGang[gang] = tools;
        return was;
    }

    public int plan(int what) {
        if (what < 0 || what > 1) {
            return refuse(OTHER);
        }
        int best = gangs.bestPlan();
        if (best == NONE) {
            return NONE;
        }
        return what == 0 ? Gangs.worstIn(best) : Gangs.togetherIn(best);
    }

    public int gangOf(int job) {
        if (job < 0 || job >= gangs.jobs) {
            return refuse(NOBODY);
        }
        int best = gangs.bestPlan();
        return best == NONE ? NONE : gangs.gangIn(Gangs.wayIn(best), job);
    }

    public int rail(int mile, int what, int v) {
        if (!isMile(mile)) {
            return refuseAsTold(NOBODY);
        }
        if (what < 0 || what > 1) {
            return refuseAsTold(OTHER);
        }
        if (v < (what == 0 ? COLDEST : 0)) {
            return refuseAsTold(BELOW);
        }
        if (v > (what == 0 ? WARMEST : Rails.LAST_LOT)) {
            return refuseAsTold(ROOM);
        }
        return what == 0 ? rails.lay(mile, v) : rails.giveLot(mile, v);
    }

    public int heat(int mile) {
        if (!isMile(mile)) {
            return refuse(NOBODY);
        }
        return heatOf(mile);
    }

    public int lot(int lot, int what) {
        if (lot < 0 || lot > Rails.LAST_LOT) {
            return refuse(NOBODY);
        }
        if (what < 0 || what > 1) {
            return refuse(OTHER);
        }
        return what == 0 ? rails.cracks[lot] : rails.milesWith(lot);
    }

    public int worst() {
        return rails.worstLot();
    }

    public int sure() {
        return rails.isWorstBeyondDoubt() ? 1 : 0;
    }

    public int count(int what) {
        if (what >= 11 && what <= 16) {
            return refusals[what - 10];
        }
        switch (what) {
            case 0:
                return now;
            case 1:
                return defects.told;
            case 2:
                return defects.countOpen();
            case 3:
                return defects.looks;
            case 4:
                return defects.quarrels;
            case 5:
                return rules.told;
            case 6:
                return orders.countStanding();
            case 7:
                return trains.told;
            case 8:
                return lines.told;
            case 9:
                return gangs.jobs;
            default:
                return NONE;
        }
    }

    private int refuse(int refusal) {
        refusals[-refusal]++;
        return refusal;
    }

    /** For answers that may themselves be below 0. */
    private int refuseAsTold(int refusal) {
        return AS_TOLD - refuse(refusal);
    }

    private static boolean isDay(int day) {
        return day >= 0 && day <= LAST_DAY;
    }

    private static boolean isMile(int mile) {
        return mile >= 0 && mile < MILES;
    }

    private static boolean isRange(int a, int b) {
        return isMile(a) && isMile(b) && a <= b;
    }

    private static boolean isKind(int kind) {
        return kind >= 0 && kind < KINDS;
    }

    private boolean isDefect(int defect) {
        return defect >= 0 && defect < defects.told;
    }

    private int refusalOfOpenDefect(int defect) {
        if (!isDefect(defect)) {
            return NOBODY;
        }
        return defects.open[defect] ? FINE : STATE;
    }

    private static int refusalOfWalk(int a, int b, int minute) {
        if (!isRange(a, b)) {
            return NOBODY;
        }
        if (minute < 0) {
            return BELOW;
        }
        return minute < MINUTES_OF_DAY ? FINE : ROOM;
    }

    private Readings readingsOf(int what) {
        return what == 0 ? tons : cold;
    }

    private int ruleFor(int defect) {
        return rules.inForce(defects.kind[defect], defects.greatest[defect], now);
    }

    private int dueDay(int defect) {
        int rule = ruleFor(defect);
        if (rule == NONE) {
            return NONE;
        }
        int since = defects.noted[defect] == rule ? defects.notedSince[defect] : now;
        return since + rules.within[rule];
    }

    private boolean isOverdue(int defect) {
        int day = dueDay(defect);
        return day != NONE && day < now;
    }

    private boolean needsAct(int mile) {
        for (int i = 0; i < defects.told; i++) {
            if (defects.open[i] && defects.mile[i] == mile) {
                int rule = ruleFor(i);
                if (rule != NONE && rules.act[rule] > WATCH) {
                    return true;
                }
            }
        }
        return false;
    }

    private int heatOf(int mile) {
        return Math.abs(settings[WARMTH] - rails.laidAt[mile]);
    }

    private void passDay() {
        defects.grow(tons.counted(now), cold.counted(now), growths);
        orders.passDay(settings[TRAINS_A_DAY]);
        now++;
    }

    private int riskOf(int mile) {
        return (now - lastWalked[mile]) * (1 + defects.countOpenIn(mile));
    }

    private void addUpRisks() {
        for (int mile = 0; mile < MILES; mile++) {
            risksBelow[mile + 1] = risksBelow[mile] + riskOf(mile);
        }
    }

    private int riskOfRange(int mile, int n) {
        return risksBelow[mile + n] - risksBelow[mile];
    }

    /** What was told of one thing, day by day, and what counts where nothing was. */
    private static final class Readings {
        static final int MISSING = -1;
        private static final int DAYS_LOOKED_BACK = 7;

        final int most;
        private final int otherwise;
        private final int[] told = new int[LAST_DAY + 1];

        Readings(int otherwise, int most) {
            this.otherwise = otherwise;
            this.most = most;
            for (int day = 0; day <= LAST_DAY; day++) {
                told[day] = MISSING;
            }
        }

        int tell(int day, int v) {
            int was = told[day];
            told[day] = v;
            return was;
        }

        int counted(int day) {
            if (told[day] != MISSING) {
                return told[day];
            }
            int greatest = MISSING;
            for (int d = Math.max(0, day - DAYS_LOOKED_BACK); d < day; d++) {
                greatest = Math.max(greatest, told[d]);
            }
            return greatest == MISSING ? otherwise : greatest;
        }
    }

    /** Defects by numbers, each with its span and with the rule that its latest looks noted. */
    private static final class Defects {
        static final int MOST = 40;
        static final int MOST_LOOKS = 120;
        private static final int COLD_THAT_SPEEDS = 15;

        int told = 0;
        int looks = 0;
        int quarrels = 0;
        final int[] mile = new int[MOST];
        final int[] yard = new int[MOST];
        final int[] side = new int[MOST];
        final int[] kind = new int[MOST];
        final boolean[] open = new boolean[MOST];
        final int[] least = new int[MOST];
        final int[] greatest = new int[MOST];
        final int[] noted = new int[MOST];
        final int[] notedSince = new int[MOST];

        /** The span is as wide as any look tells, so that the first look cuts it as every other does. */
        int add(int itsMile, int itsYard, int itsSide, int itsKind) {
            int number = told;
            mile[number] = itsMile;
            yard[number] = itsYard;
            side[number] = itsSide;
            kind[number] = itsKind;
            open[number] = true;
            least[number] = 0;
            greatest[number] = MOST_SIZE + MOST_DOUBT;
            noted[number] = NONE;
            told++;
            return number;
        }

        boolean cutSpan(int defect, int size, int doubt) {
            int low = Math.max(0, size - doubt);
            int high = size + doubt;
            boolean fits = low <= greatest[defect] && high >= least[defect];
            least[defect] = fits ? Math.max(least[defect], low) : low;
            greatest[defect] = fits ? Math.min(greatest[defect], high) : high;
            looks++;
            if (!fits) {
                quarrels++;
            }
            return fits;
        }

        /** Only the latest looks that noted one rule bear on what is due: the earlier ones need not be kept. */
        void note(int defect, int rule, int day) {
            if (noted[defect] != rule) {
                noted[defect] = rule;
                notedSince[defect] = day;
            }
        }

        void grow(int tonsOfDay, int coldOfDay, int[] growthOfKinds) {
            for (int i = 0; i < told; i++) {
                if (open[i]) {
                    greatest[i] += mostGrowth(tonsOfDay, coldOfDay, growthOfKinds[kind[i]]);
                }
            }
        }

        private static int mostGrowth(int tonsOfDay, int coldOfDay, int g) {
            int x = tonsOfDay * g;
            if (coldOfDay >= COLD_THAT_SPEEDS) {
                x += x / 2;
            }
            return 1 + x / 100;
        }

        int countOpen() {
            int opened = 0;
            for (int i = 0; i < told; i++) {
                if (open[i]) {
                    opened++;
                }
            }
            return opened;
        }

        int countOpenIn(int itsMile) {
            int opened = 0;
            for (int i = 0; i < told; i++) {
                if (open[i] && mile[i] == itsMile) {
                    opened++;
                }
            }
            return opened;
        }

        /** The number of an open defect by its place among the open ones; NONE if there are not so many. */
        int openOne(int place) {
            int passed = 0;
            for (int i = 0; i < told; i++) {
                if (open[i]) {
                    if (passed == place) {
                        return i;
                    }
                    passed++;
                }
            }
            return NONE;
        }
    }

    /** Rules by numbers. */
    private static final class RuleBook {
        static final int MOST = 30;

        int told = 0;
        final int[] act = new int[MOST];
        final int[] within = new int[MOST];
        private final int[] kind = new int[MOST];
        private final int[] size = new int[MOST];
        private final int[] from = new int[MOST];

        int add(int itsKind, int itsSize, int day, int itsAct, int itsWithin) {
            int number = told;
            kind[number] = itsKind;
            size[number] = itsSize;
            from[number] = day;
            act[number] = itsAct;
            within[number] = itsWithin;
            told++;
            return number;
        }

        int inForce(int itsKind, int greatest, int now) {
            int best = NONE;
            for (int i = 0; i < told; i++) {
                boolean fits = kind[i] == itsKind && from[i] <= now && size[i] <= greatest;
                if (fits && (best == NONE || !goesBefore(best, i))) {
                    best = i;
                }
            }
            return best;
        }

        /** Whether a rule goes before one of a greater number, which wins if all else is the same. */
        private boolean goesBefore(int rule, int later) {
            if (size[rule] != size[later]) {
                return size[rule] > size[later];
            }
            return from[rule] > from[later];
        }
    }

    /** Slow orders by miles, 0 minutes where none stands. */
    private static final class SlowOrders {
        int lostMinutes = 0;
        final int[] minutes = new int[MILES];

        boolean standsOn(int mile) {
            return minutes[mile] > 0;
        }

        int countStanding() {
            int standing = 0;
            for (int mile = 0; mile < MILES; mile++) {
                if (standsOn(mile)) {
                    standing++;
                }
            }
            return standing;
        }

        void passDay(int trainsOfDay) {
            for (int mile = 0; mile < MILES; mile++) {
                lostMinutes += minutes[mile] * trainsOfDay;
            }
        }
    }

    /** Trains by numbers, and when a walk meets none. */
    private static final class Timetable {
        static final int MOST = 24;
        private static final int GAP = 5;

        int told = 0;
        private final int[] start = new int[MOST];
        private final int[] pace = new int[MOST];

        int add(int itsStart, int itsPace) {
            int number = told;
            start[number] = itsStart;
            pace[number] = itsPace;
            told++;
            return number;
        }

        /**
         * The minute itself if a walk from it on is safe; else the least one at which all trains that
         * stand in its way are out of it. No minute between can be safe: the same trains stand there.
         */
        int clearFrom(int a, int b, int minute, int step) {
            int clear = minute;
            for (int mile = a; mile <= b; mile++) {
                int walkBefore = (mile - a) * step;
                int from = minute + walkBefore - GAP;
                int to = minute + walkBefore + step - 1 + GAP;
                for (int i = 0; i < told; i++) {
                    int passes = start[i] + pace[i] * mile;
                    if (passes >= from && passes <= to) {
                        clear = Math.max(clear, passes + GAP + 1 - walkBefore);
                    }
                }
            }
            return clear;
        }

        int firstSafe(int a, int b, int minute, int step) {
            int latest = MINUTES_OF_DAY - (b - a + 1) * step;
            int at = minute;
            for (int tries = 0; tries < MINUTES_OF_DAY && at <= latest; tries++) {
                int clear = clearFrom(a, b, at, step);
                if (clear == at) {
                    return at;
                }
                at = clear;
            }
            return NONE;
        }
    }

    /** What two walkers, apart, found in each mile. */
    private static final class Finds {
        private final int[] byFirst = new int[MILES];
        private final int[] bySecond = new int[MILES];
        private final int[] byBoth = new int[MILES];

        boolean hasRoom(int mile, int first, int second, int both) {
            return byFirst[mile] + first <= MOST_FOUND
                    && bySecond[mile] + second <= MOST_FOUND
                    && byBoth[mile] + both <= MOST_FOUND;
        }

        void add(int mile, int first, int second, int both) {
            byFirst[mile] += first;
            bySecond[mile] += second;
            byBoth[mile] += both;
        }

        int estimate(int mile) {
            int both = byBoth[mile];
            if (both <= 0) {
                return NONE;
            }
            int product = (byFirst[mile] + both) * (bySecond[mile] + both);
            return (product + both - 1) / both;
        }

        int missed(int mile) {
            int all = estimate(mile);
            return all == NONE ? NONE : all - byFirst[mile] - bySecond[mile] - byBoth[mile];
        }
    }

    /**
     * Lines that a car measured, and how they are joined to defects. A joining is weighed by one number,
     * the least being the best: lines that are left alone, then yards, then the choice of each line as a
     * digit to the base 13 (the place of its defect among the open ones, 12 for none), line 0 first. So
     * no two joinings weigh the same, and the weight itself tells which one it is.
     */
    private static final class CarLines {
        static final int MOST = 8;
        private static final int MOST_DEFECTS = 12;
        private static final int BASE = 13;
        private static final long[] DIGITS = {62748517L, 4826809L, 371293L, 28561L, 2197L, 169L, 13L, 1L};
        private static final long A_YARD = 815730721L;
        // eight lines lie at most 1600 yards off together
        private static final long A_LINE_ALONE = 2000L * A_YARD;
        private static final long NEVER = 1L << 60;

        int told = 0;
        private final int[] mile = new int[MOST];
        private final int[] yard = new int[MOST];
        private final int[] side = new int[MOST];
        private final long[] pairWeights = new long[MOST];
        private final long[] leastFor = new long[1 << MOST];

        int add(int itsMile, int itsYard, int itsSide) {
            int number = told;
            mile[number] = itsMile;
            yard[number] = itsYard;
            side[number] = itsSide;
            told++;
            return number;
        }

        /** Defect by defect, the least weight with which just the lines of each set are joined. */
        long bestJoining(Defects defects, int off) {
            int sets = 1 << told;
            leastFor[0] = 0;
            for (int set = 1; set < sets; set++) {
                leastFor[set] = NEVER;
            }
            int place = 0;
            for (int i = 0; i < defects.told && place < MOST_DEFECTS; i++) {
                if (defects.open[i]) {
                    if (weighPairs(defects, i, place, off)) {
                        offerDefect(sets);
                    }
                    place++;
                }
            }
            long best = NEVER;
            for (int set = 0; set < sets; set++) {
                best = Math.min(best, leastFor[set] + weightOfRest(set));
            }
            return best;
        }

        private boolean weighPairs(Defects defects, int defect, int place, int off) {
            boolean any = false;
            for (int i = 0; i < told; i++) {
                int apart = Math.abs(yard[i] - defects.yard[defect]);
                boolean fits = mile[i] == defects.mile[defect] && side[i] == defects.side[defect] && apart <= off;
                pairWeights[i] = fits ? apart * A_YARD + place * DIGITS[i] : NEVER;
                any = any || fits;
            }
            return any;
        }

        /** Larger sets first: what they are made from does not hold this defect yet. */
        private void offerDefect(int sets) {
            for (int set = sets - 1; set > 0; set--) {
                for (int i = 0; i < told; i++) {
                    int without = set & ~(1 << i);
                    if (without != set && pairWeights[i] != NEVER && leastFor[without] != NEVER) {
                        leastFor[set] = Math.min(leastFor[set], leastFor[without] + pairWeights[i]);
                    }
                }
            }
        }

        private long weightOfRest(int set) {
            long weight = 0;
            for (int i = 0; i < told; i++) {
                if ((set & (1 << i)) == 0) {
                    weight += A_LINE_ALONE + MOST_DEFECTS * DIGITS[i];
                }
            }
            return weight;
        }

        int joinedIn(long joining) {
            return told - (int) (joining / A_LINE_ALONE);
        }

        static int yardsIn(long joining) {
            return (int) (joining % A_LINE_ALONE / A_YARD);
        }

        /** The place of the line's defect among the open ones; one that no defect has if it is left alone. */
        static int choiceIn(long joining, int line) {
            int choice = (int) (joining % A_YARD / DIGITS[line] % BASE);
            return choice < MOST_DEFECTS ? choice : NONE;
        }
    }

    /**
     * Jobs and the two gangs. A plan is weighed by one number, the least being the best: the greatest
     * lateness, then all lateness together (below 4096), then the way, whose bits are the gangs of the
     * jobs, job 0 first.
     */
    private static final class Gangs {
        static final int MOST_JOBS = 8;
        private static final int WORST_SHIFT = 20;
        private static final int TOGETHER_SHIFT = 8;

        int jobs = 0;
        final int[] toolsOfGang = {ALL_TOOLS, ALL_TOOLS};
        private final int[] hours = new int[MOST_JOBS];
        private final int[] dueHour = new int[MOST_JOBS];
        private final int[] tools = new int[MOST_JOBS];
        private final int[] byDue = new int[MOST_JOBS];

        int add(int itsHours, int itsDue, int itsTools) {
            int number = jobs;
            hours[number] = itsHours;
            dueHour[number] = itsDue;
            tools[number] = itsTools;
            int at = number;
            while (at > 0 && dueHour[byDue[at - 1]] > itsDue) {
                byDue[at] = byDue[at - 1];
                at--;
            }
            byDue[at] = number;
            jobs++;
            return number;
        }

        int bestPlan() {
            int best = NONE;
            int ways = 1 << jobs;
            for (int way = 0; way < ways; way++) {
                if (hasTools(way)) {
                    int weight = weigh(way);
                    best = best == NONE ? weight : Math.min(best, weight);
                }
            }
            return best;
        }

        private boolean hasTools(int way) {
            for (int job = 0; job < jobs; job++) {
                if ((tools[job] & ~toolsOfGang[gangIn(way, job)]) != 0) {
                    return false;
                }
            }
            return true;
        }

        private int weigh(int way) {
            int endOfFirst = 0;
            int endOfSecond = 0;
            int worst = 0;
            int together = 0;
            for (int i = 0; i < jobs; i++) {
                int job = byDue[i];
                int end;
                if (gangIn(way, job) == 0) {
                    endOfFirst += hours[job];
                    end = endOfFirst;
                } else {
                    endOfSecond += hours[job];
                    end = endOfSecond;
                }
                int late = Math.max(0, end - dueHour[job]);
                worst = Math.max(worst, late);
                together += late;
            }
            return (worst << WORST_SHIFT) | (together << TOGETHER_SHIFT) | way;
        }

        int gangIn(int way, int job) {
            return (way >> (jobs - 1 - job)) & 1;
        }

        static int worstIn(int plan) {
            return plan >> WORST_SHIFT;
        }

        static int togetherIn(int plan) {
            return (plan >> TOGETHER_SHIFT) & ((1 << (WORST_SHIFT - TOGETHER_SHIFT)) - 1);
        }

        static int wayIn(int plan) {
            return plan & ((1 << TOGETHER_SHIFT) - 1);
        }
    }

    /** The rail of each mile, and the cracks of each lot. */
    private static final class Rails {
        static final int LAST_LOT = 5;

        final int[] laidAt = new int[MILES];
        final int[] cracks = new int[LAST_LOT + 1];
        private final int[] lotOfMile = new int[MILES];

        Rails() {
            for (int mile = 0; mile < MILES; mile++) {
                laidAt[mile] = WARMTH_AT_FIRST;
            }
        }

        int lay(int mile, int warmth) {
            int was = laidAt[mile];
            laidAt[mile] = warmth;
            return was;
        }

        int giveLot(int mile, int itsLot) {
            int was = lotOfMile[mile];
            lotOfMile[mile] = itsLot;
            return was;
        }

        void addCrack(int mile) {
            cracks[lotOfMile[mile]]++;
        }

        int milesWith(int itsLot) {
            int miles = 0;
            for (int mile = 0; mile < MILES; mile++) {
                if (lotOfMile[mile] == itsLot) {
                    miles++;
                }
            }
            return miles;
        }

        int worstLot() {
            int worst = NONE;
            int worstCracks = 0;
            int worstMiles = 1;
            for (int i = 0; i <= LAST_LOT; i++) {
                int miles = milesWith(i);
                if (miles > 0 && cracks[i] * worstMiles > worstCracks * miles) {
                    worst = i;
                    worstCracks = cracks[i];
                    worstMiles = miles;
                }
            }
            return worst;
        }

        boolean isWorstBeyondDoubt() {
            int worst = worstLot();
            if (worst == NONE) {
                return false;
            }
            int worstMiles = milesWith(worst);
            for (int i = 0; i <= LAST_LOT; i++) {
                int miles = milesWith(i);
                if (i != worst && miles > 0 && cracks[worst] * miles <= 2 * cracks[i] * worstMiles) {
                    return false;
                }
            }
            return true;
        }
    }
}
