import java.util.Arrays;

/**
 * A see whose bishop is whoever has stood longest in the corner with the dunce cap on.
 * The words in capitals are those of the document.
 */
public final class DunceSee {
    public static final int UNKNOWN = -1, OUTSIDE = -2, STATE = -3, FULL = -4, NONE = -9;
    public static final long LOST = Long.MIN_VALUE;

    private static final int MOST_DAYS = 5;
    private static final int MOST_PUPILS = 4;
    private static final int MOST_ROOM = 4;
    private static final int MOST_READINGS = 8;
    private static final int MOST_HOURS_READ = 99;
    private static final int MOST_SHEETS = 4;
    private static final int MOST_CELLS = 60;
    private static final int LEVELS = 10;

    private static final int PUPIL = 0, DEACON = 1, CURATE = 2;
    private static final int KINDS = 3;

    private static final int BYTES = 0, SHORTS = 1;
    private static final int LANES = 3;

    private static final int NO_FAULT = 0, NULL = 1, CAST = 2, INDEX = 3, SIZE = 4;
    private static final int BEFORE_FAULTS = -10;
    private static final int BEFORE_PLACES = -100;

    private static final int PLAN_BISHOP = 0, PLAN_RESTLESS = 1, PLAN_HOURS = 2, PLAN_CROWDED = 3;
    private static final int PLAN_OF_PUPIL = 10;
    private static final int PLAN_OF_DAY = 20;

    private final Roll told = new Roll();
    /** Where a call tries what might be, so that the SEE itself stays as it was told. */
    private final Roll tried = new Roll();
    private final Reader reader = new Reader();
    private final Readings readings = new Readings();
    private final Sheets sheets = new Sheets();
    private int trace;
    private int fault;

    public DunceSee() {
    }

    // ---- 1 the see

    public int see(int sheet, int lane, int i, int n) {
        fault = NO_FAULT;
        if (!isSheet(sheet)) {
            return UNKNOWN;
        }
        if (!isLane(lane)) {
            return OUTSIDE;
        }
        int met = sheets.faultOfCells(sheet, lane, i, n);
        if (met != NO_FAULT) {
            return fail(met);
        }
        int place = firstFaultOfText(sheet, i, n);
        if (place != NONE) {
            return BEFORE_PLACES - place;
        }
        told.become(reader.roll);
        readings.keep(0);
        return told.pupils;
    }

    public int ofPupil(int p, int what) {
        if (!isPupil(p)) {
            return UNKNOWN;
        }
        switch (what) {
            case 0:
                return told.kindOf[p];
            case 1:
                return told.witOf[p];
            case 2:
                return told.patienceOf[p];
            case 3:
                return told.hoursOfDay(p);
            default:
                return OUTSIDE;
        }
    }

    public int hard(int d) {
        return isDay(d) ? told.hardOf[d] : UNKNOWN;
    }

    public int ask(int d, int v) {
        if (!isDay(d)) {
            return UNKNOWN;
        }
        if (!isLevel(v)) {
            return OUTSIDE;
        }
        int was = told.hardOf[d];
        told.hardOf[d] = v;
        return was;
    }

    public int teach(int p, int v) {
        if (!isPupil(p)) {
            return UNKNOWN;
        }
        if (!isLevel(v)) {
            return OUTSIDE;
        }
        int was = told.witOf[p];
        told.witOf[p] = v;
        return was;
    }

    public int doubt(int v) {
        if (!isLevel(v)) {
            return OUTSIDE;
        }
        if (!hasSee()) {
            return STATE;
        }
        int was = told.doubt;
        told.doubt = v;
        return was;
    }

    public int build(int v) {
        if (v < 1 || v > MOST_ROOM) {
            return OUTSIDE;
        }
        if (!hasSee()) {
            return STATE;
        }
        int was = told.room;
        told.room = v;
        return was;
    }

    // ---- 2 who stands

    public int would(int p, int d, boolean pretends) {
        if (!isPupil(p) || !isDay(d)) {
            return UNKNOWN;
        }
        return told.wouldStand(p, d, pretends) ? 1 : 0;
    }

    public int stand(int d) {
        return isDay(d) ? told.whoStands(d) : UNKNOWN;
    }

    public int bishop() {
        if (!hasSee()) {
            return STATE;
        }
        told.settle();
        return told.longestStander();
    }

    public int plan(int sheet, int lane, int i, int n, int what) {
        fault = NO_FAULT;
        if (!isSheet(sheet)) {
            return UNKNOWN;
        }
        if (!isLane(lane) || !isOfPlan(what)) {
            return OUTSIDE;
        }
        int met = sheets.faultOfCells(sheet, lane, i, n);
        if (met != NO_FAULT) {
            return fail(met);
        }
        if (!hasSee()) {
            return STATE;
        }
        if (n != told.pupils || !tryPlan(sheet, i)) {
            return OUTSIDE;
        }
        return ofPlanTried(what);
    }

    // ---- 3 how to be bishop

    public int best(int p) {
        if (!isPupil(p)) {
            return UNKNOWN;
        }
        tried.become(told);
        int found = NONE;
        int fewest = MOST_DAYS + 1;
        for (int set = 0; set <= told.allDays(); set++) {
            int size = Integer.bitCount(set);
            if (size < fewest) {
                tried.pretendsOf[p] = set;
                if (isBishopAsTried(p)) {
                    found = set;
                    fewest = size;
                }
            }
        }
        return found;
    }

    public int choose(int p, int d) {
        if (!isPupil(p) || !isDay(d)) {
            return UNKNOWN;
        }
        tried.become(told);
        for (int v = 0; v < LEVELS; v++) {
            tried.hardOf[d] = v;
            if (isBishopAsTried(p)) {
                return v;
            }
        }
        return NONE;
    }

    // ---- 4 how long they stood

    public int reading(int p, int t, int v) {
        if (!isPupil(p)) {
            return UNKNOWN;
        }
        if (t < 0 || t > told.days || v < 0 || v > MOST_HOURS_READ) {
            return OUTSIDE;
        }
        if (readings.count >= MOST_READINGS) {
            return FULL;
        }
        return readings.add(p, t, v);
    }

    public int back(int k) {
        if (k < 0 || k > readings.count) {
            return OUTSIDE;
        }
        readings.keep(readings.count - k);
        return readings.count;
    }

    public int wits(int p) {
        if (!isPupil(p)) {
            return UNKNOWN;
        }
        tried.become(told);
        int set = 0;
        for (int v = 0; v < LEVELS; v++) {
            tried.witOf[p] = v;
            set |= bitIfRead(v);
        }
        return set;
    }

    public int kinds(int p) {
        if (!isPupil(p)) {
            return UNKNOWN;
        }
        tried.become(told);
        int set = 0;
        for (int kind = 0; kind < KINDS; kind++) {
            tried.kindOf[p] = kind;
            set |= bitIfRead(kind);
        }
        return set;
    }

    public int hards(int d) {
        if (!isDay(d)) {
            return UNKNOWN;
        }
        tried.become(told);
        int set = 0;
        for (int v = 0; v < LEVELS; v++) {
            tried.hardOf[d] = v;
            set |= bitIfRead(v);
        }
        return set;
    }

    public long odds(int p, int which) {
        if (!isPupil(p) || which < 0 || which > 1) {
            return LOST;
        }
        tried.become(told);
        int all = 1 << told.pupils;
        int times = 0;
        for (int set = 0; set < all; set++) {
            tried.pretendAllDays(set);
            if (isBishopAsTried(p)) {
                times++;
            }
        }
        int common = commonDivisor(all, times);
        return which == 0 ? times / common : all / common;
    }

    // ---- 5 sheets, parts

    public int sheet(int k, int lane, int n) {
        fault = NO_FAULT;
        if (!isSheet(k)) {
            return UNKNOWN;
        }
        if (!isLane(lane) || n > MOST_CELLS) {
            return OUTSIDE;
        }
        if (n < 0) {
            return fail(SIZE);
        }
        sheets.renew(k, lane, n);
        return 1;
    }

    public int lose(int k) {
        if (!isSheet(k)) {
            return UNKNOWN;
        }
        return sheets.drop(k) ? 1 : 0;
    }

    public int put(int k, int i, int v) {
        fault = NO_FAULT;
        if (!isSheet(k)) {
            return UNKNOWN;
        }
        if (!sheets.hasRow(k)) {
            return fail(NULL);
        }
        if (!sheets.hasPlace(k, i)) {
            return fail(INDEX);
        }
        sheets.write(k, i, v);
        return 1;
    }

    public long cell(int k, int i, int lane) {
        fault = NO_FAULT;
        if (!isSheet(k) || !isLane(lane)) {
            return LOST;
        }
        fault = sheets.faultOfRow(k, lane);
        if (fault == NO_FAULT && !sheets.hasPlace(k, i)) {
            fault = INDEX;
        }
        return fault == NO_FAULT ? sheets.read(k, i) : LOST;
    }

    public int copy(int k, int i, int other, int j, int n) {
        fault = NO_FAULT;
        if (!isSheet(k) || !isSheet(other)) {
            return UNKNOWN;
        }
        if (!sheets.hasRow(k) || !sheets.hasRow(other)) {
            return fail(NULL);
        }
        if (sheets.laneOf[k] != sheets.laneOf[other]) {
            return fail(CAST);
        }
        if (n < 0 || !sheets.hasPlaces(k, i, n) || !sheets.hasPlaces(other, j, n)) {
            return fail(INDEX);
        }
        sheets.carry(k, i, other, j, n);
        return n;
    }

    public int tell(int p) {
        if (!isPupil(p)) {
            return UNKNOWN;
        }
        switch (told.kindOf[p]) {
            case CURATE:
                return tellAsCurate(p);
            case DEACON:
                return tellAsDeacon(p);
            default:
                return tellAsPupil(p);
        }
    }

    public int cap(int p) {
        if (!isPupil(p)) {
            return UNKNOWN;
        }
        if (told.kindOf[p] == CURATE) {
            leaveTrace(5);
            return 70;
        }
        leaveTrace(4);
        return p;
    }

    public int as(int p, int kind) {
        fault = NO_FAULT;
        if (!isPupil(p)) {
            return UNKNOWN;
        }
        if (kind < 0 || kind >= KINDS) {
            return OUTSIDE;
        }
        // Each kind is one of the kind numbered below it, too.
        return told.kindOf[p] >= kind ? 1 : fail(CAST);
    }

    public int trace() {
        return trace;
    }

    public int fault() {
        return fault;
    }

    public int many(int what) {
        switch (what) {
            case 0:
                return told.pupils;
            case 1:
                return told.days;
            case 2:
                return told.doubt;
            case 3:
                return told.room;
            case 4:
                return readings.count;
            default:
                return OUTSIDE;
        }
    }

    // ---- what the calls share

    private boolean hasSee() {
        return told.pupils > 0;
    }

    private boolean isPupil(int p) {
        return p >= 0 && p < told.pupils;
    }

    private boolean isDay(int d) {
        return d >= 0 && d < told.days;
    }

    private static boolean isLevel(int v) {
        return v >= 0 && v < LEVELS;
    }

    private static boolean isSheet(int k) {
        return k >= 0 && k < MOST_SHEETS;
    }

    private static boolean isLane(int lane) {
        return lane >= 0 && lane < LANES;
    }

    private static boolean isOfPlan(int what) {
        return what >= PLAN_BISHOP && what <= PLAN_CROWDED
            || what >= PLAN_OF_PUPIL && what < PLAN_OF_PUPIL + MOST_PUPILS
            || what >= PLAN_OF_DAY && what < PLAN_OF_DAY + MOST_DAYS;
    }

    private int fail(int met) {
        fault = met;
        return BEFORE_FAULTS - met;
    }

    /** Leaves what the cells tell with the reader; the place of the FIRST FAULT, or NONE. */
    private int firstFaultOfText(int sheet, int i, int n) {
        reader.begin();
        for (int place = 0; place < n; place++) {
            if (!reader.takes(sheets.read(sheet, i + place))) {
                return place;
            }
        }
        return reader.mayEnd() ? NONE : n;
    }

    /** False where a cell is no set of DAYS. */
    private boolean tryPlan(int sheet, int i) {
        tried.become(told);
        for (int p = 0; p < told.pupils; p++) {
            int set = sheets.read(sheet, i + p);
            if (set < 0 || set > told.allDays()) {
                return false;
            }
            tried.pretendsOf[p] = set;
        }
        tried.settle();
        return true;
    }

    private int ofPlanTried(int what) {
        if (what >= PLAN_OF_DAY) {
            int d = what - PLAN_OF_DAY;
            return isDay(d) ? tried.standing[d] : NONE;
        }
        if (what >= PLAN_OF_PUPIL) {
            int p = what - PLAN_OF_PUPIL;
            return isPupil(p) ? tried.hoursBehind(p, tried.days) : NONE;
        }
        switch (what) {
            case PLAN_BISHOP:
                return tried.longestStander();
            case PLAN_RESTLESS:
                return tried.firstRestless();
            case PLAN_HOURS:
                return tried.hoursOfAll();
            default:
                return tried.crowdedDays();
        }
    }

    private boolean isBishopAsTried(int p) {
        tried.settle();
        return tried.longestStander() == p;
    }

    private int bitIfRead(int number) {
        tried.settle();
        return readings.areSoIn(tried) ? 1 << number : 0;
    }

    /** Of a above 0 and b not below 0: above 0 always, so that one may divide by it. */
    private static int commonDivisor(int a, int b) {
        int divisor = a;
        while (divisor > 1 && (a % divisor != 0 || b % divisor != 0)) {
            divisor--;
        }
        return divisor;
    }

    private void leaveTrace(int number) {
        trace = 31 * trace + number;
    }

    private int tellAsPupil(int p) {
        leaveTrace(1);
        return told.patienceOf[p];
    }

    private int tellAsDeacon(int p) {
        leaveTrace(2);
        return tellAsPupil(p) + 100;
    }

    private int tellAsCurate(int p) {
        leaveTrace(3);
        int asDeacon = tellAsDeacon(p);
        return asDeacon + tellAsPupil(p);
    }

    /** The DAYS and PUPILS of a SEE, as it is told or as it is tried. */
    private static final class Roll {
        private int days;
        private int pupils;
        private int doubt;
        private int room;
        private final int[] hardOf = new int[MOST_DAYS];
        private final int[] kindOf = new int[MOST_PUPILS];
        private final int[] witOf = new int[MOST_PUPILS];
        private final int[] patienceOf = new int[MOST_PUPILS];
        /** Of each PUPIL the set of DAYS: none, but in what is tried. */
        private final int[] pretendsOf = new int[MOST_PUPILS];
        /** Of each DAY the set of who STANDS, as it was when settle() was called. */
        private final int[] standing = new int[MOST_DAYS];

        void become(Roll other) {
            days = other.days;
            pupils = other.pupils;
            doubt = other.doubt;
            room = other.room;
            System.arraycopy(other.hardOf, 0, hardOf, 0, MOST_DAYS);
            System.arraycopy(other.kindOf, 0, kindOf, 0, MOST_PUPILS);
            System.arraycopy(other.witOf, 0, witOf, 0, MOST_PUPILS);
            System.arraycopy(other.patienceOf, 0, patienceOf, 0, MOST_PUPILS);
            Arrays.fill(pretendsOf, 0);
        }

        int allDays() {
            return (1 << days) - 1;
        }

        int hoursOfDay(int p) {
            int patience = patienceOf[p];
            switch (kindOf[p]) {
                case CURATE:
                    return patience / 2;
                case DEACON:
                    return Math.max(patience - 1, 0);
                default:
                    return patience;
            }
        }

        void pretendAllDays(int set) {
            for (int p = 0; p < pupils; p++) {
                pretendsOf[p] = holds(set, p) ? allDays() : 0;
            }
        }

        boolean wouldStand(int p, int d, boolean pretends) {
            int above = witOf[p] - hardOf[d];
            return above < 0 || pretends && above < doubt;
        }

        int whoWouldStand(int d) {
            int set = 0;
            for (int p = 0; p < pupils; p++) {
                if (wouldStand(p, d, holds(pretendsOf[p], d))) {
                    set |= 1 << p;
                }
            }
            return set;
        }

        int whoStands(int d) {
            int would = whoWouldStand(d);
            if (Integer.bitCount(would) <= room) {
                return would;
            }
            int set = 0;
            for (int p = 0; p < pupils; p++) {
                if (holds(would, p) && howManyBefore(p, would) < room) {
                    set |= 1 << p;
                }
            }
            return set;
        }

        /** How many of those who WOULD stand go to the corner sooner than one. */
        int howManyBefore(int p, int would) {
            int before = 0;
            for (int q = 0; q < pupils; q++) {
                boolean sooner = witOf[q] < witOf[p] || witOf[q] == witOf[p] && q < p;
                if (sooner && holds(would, q)) {
                    before++;
                }
            }
            return before;
        }

        void settle() {
            for (int d = 0; d < days; d++) {
                standing[d] = whoStands(d);
            }
        }

        int hoursBehind(int p, int someDays) {
            int stood = 0;
            for (int d = 0; d < someDays; d++) {
                if (holds(standing[d], p)) {
                    stood++;
                }
            }
            return stood * hoursOfDay(p);
        }

        int hoursOfAll() {
            int hours = 0;
            for (int p = 0; p < pupils; p++) {
                hours += hoursBehind(p, days);
            }
            return hours;
        }

        int longestStander() {
            int longest = NONE;
            int most = 0;
            for (int p = 0; p < pupils; p++) {
                int hours = hoursBehind(p, days);
                if (hours > most) {
                    most = hours;
                    longest = p;
                }
            }
            return longest;
        }

        int crowdedDays() {
            int set = 0;
            for (int d = 0; d < days; d++) {
                if (Integer.bitCount(whoWouldStand(d)) > room) {
                    set |= 1 << d;
                }
            }
            return set;
        }

        int firstRestless() {
            for (int p = 0; p < pupils; p++) {
                if (hoursPretendingAlways(p) > hoursBehind(p, days)) {
                    return p;
                }
            }
            return NONE;
        }

        /** The most that any set gives one: to PRETEND never keeps oneself out of the corner. */
        int hoursPretendingAlways(int p) {
            int set = pretendsOf[p];
            pretendsOf[p] = allDays();
            int stood = 0;
            for (int d = 0; d < days; d++) {
                if (holds(whoStands(d), p)) {
                    stood++;
                }
            }
            pretendsOf[p] = set;
            return stood * hoursOfDay(p);
        }

        private static boolean holds(int set, int number) {
            return (set >> number & 1) != 0;
        }
    }

    /**
     * Takes a TEXT into its roll, code by code, until one comes with which no TEXT goes on.
     * The roll is of use only if all codes were taken and the TEXT may end there.
     */
    private static final class Reader {
        private static final int AT_START = 0, AT_DOUBT = 1, AT_ROOM = 2, AT_COMMA = 3,
            AT_FIRST_DAY = 4, BEHIND_DAY = 5, AT_KIND = 6, AT_WIT = 7, AT_PATIENCE = 8,
            BEHIND_PUPIL = 9;

        private final Roll roll = new Roll();
        private int step;

        void begin() {
            step = AT_START;
            roll.days = 0;
            roll.pupils = 0;
        }

        boolean mayEnd() {
            return step == BEHIND_PUPIL;
        }

        boolean takes(int code) {
            switch (step) {
                case AT_START:
                    return goesOn(code == 'c', AT_DOUBT);
                case AT_DOUBT:
                    roll.doubt = code - '0';
                    return goesOn(isDigit(code), AT_ROOM);
                case AT_ROOM:
                    roll.room = code - '0';
                    return goesOn(code >= '1' && code <= '4', AT_COMMA);
                case AT_COMMA:
                    return goesOn(code == ',', AT_FIRST_DAY);
                case AT_FIRST_DAY:
                    return takesDay(code);
                case BEHIND_DAY:
                    return code == ';' ? goesOn(true, AT_KIND) : takesDay(code);
                case BEHIND_PUPIL:
                    return goesOn(code == ';' && roll.pupils < MOST_PUPILS, AT_KIND);
                default:
                    return roll.pupils < MOST_PUPILS && takesOfPupil(roll.pupils, code);
            }
        }

        private boolean takesDay(int code) {
            if (!isDigit(code) || roll.days >= MOST_DAYS) {
                return false;
            }
            roll.hardOf[roll.days] = code - '0';
            roll.days++;
            return goesOn(true, BEHIND_DAY);
        }

        private boolean takesOfPupil(int p, int code) {
            if (step == AT_KIND) {
                roll.kindOf[p] = kindOfLetter(code);
                return goesOn(roll.kindOf[p] != NONE, AT_WIT);
            }
            if (!isDigit(code)) {
                return false;
            }
            if (step == AT_WIT) {
                roll.witOf[p] = code - '0';
                return goesOn(true, AT_PATIENCE);
            }
            roll.patienceOf[p] = code - '0';
            roll.pupils++;
            return goesOn(true, BEHIND_PUPIL);
        }

        private boolean goesOn(boolean fits, int next) {
            if (fits) {
                step = next;
            }
            return fits;
        }

        private static boolean isDigit(int code) {
            return code >= '0' && code <= '9';
        }

        private static int kindOfLetter(int code) {
            switch (code) {
                case 'p':
                    return PUPIL;
                case 'd':
                    return DEACON;
                case 'u':
                    return CURATE;
                default:
                    return NONE;
            }
        }
    }

    /** What was read of how long PUPILS had stood. */
    private static final class Readings {
        private final int[] pupilOf = new int[MOST_READINGS];
        private final int[] daysOf = new int[MOST_READINGS];
        private final int[] hoursOf = new int[MOST_READINGS];
        private int count;

        int add(int p, int days, int hours) {
            int number = count;
            pupilOf[number] = p;
            daysOf[number] = days;
            hoursOf[number] = hours;
            count++;
            return number;
        }

        void keep(int some) {
            count = some;
        }

        boolean areSoIn(Roll roll) {
            for (int r = 0; r < count; r++) {
                if (roll.hoursBehind(pupilOf[r], daysOf[r]) != hoursOf[r]) {
                    return false;
                }
            }
            return true;
        }
    }

    /** All SHEETS in one row, so that a new row of a SHEET needs no new array. */
    private static final class Sheets {
        private static final int NOTHING = -1;

        private final int[] cells = new int[MOST_SHEETS * MOST_CELLS];
        private final int[] laneOf = new int[MOST_SHEETS];
        private final int[] sizeOf = new int[MOST_SHEETS];

        Sheets() {
            Arrays.fill(laneOf, NOTHING);
        }

        boolean hasRow(int k) {
            return laneOf[k] != NOTHING;
        }

        void renew(int k, int lane, int n) {
            laneOf[k] = lane;
            sizeOf[k] = n;
            Arrays.fill(cells, k * MOST_CELLS, k * MOST_CELLS + n, 0);
        }

        /** Whether there was a row. */
        boolean drop(int k) {
            boolean had = hasRow(k);
            laneOf[k] = NOTHING;
            sizeOf[k] = 0;
            return had;
        }

        boolean hasPlace(int k, int i) {
            return i >= 0 && i < sizeOf[k];
        }

        /** Of n not below 0. */
        boolean hasPlaces(int k, int i, int n) {
            return i >= 0 && i <= sizeOf[k] && n <= sizeOf[k] - i;
        }

        /** CAST comes first, but nothing may be taken for a row of any LANE. */
        int faultOfRow(int k, int lane) {
            if (!hasRow(k)) {
                return NULL;
            }
            return laneOf[k] == lane ? NO_FAULT : CAST;
        }

        int faultOfCells(int k, int lane, int i, int n) {
            int met = faultOfRow(k, lane);
            if (met != NO_FAULT) {
                return met;
            }
            if (n < 0) {
                return SIZE;
            }
            return hasPlaces(k, i, n) ? NO_FAULT : INDEX;
        }

        int read(int k, int i) {
            return cells[k * MOST_CELLS + i];
        }

        void write(int k, int i, int v) {
            cells[k * MOST_CELLS + i] = cut(v, laneOf[k]);
        }

        void carry(int k, int i, int other, int j, int n) {
            System.arraycopy(cells, k * MOST_CELLS + i, cells, other * MOST_CELLS + j, n);
        }

        private static int cut(int v, int lane) {
            switch (lane) {
                case BYTES:
                    return (byte) v;
                case SHORTS:
                    return (short) v;
                default:
                    return v;
            }
        }
    }
}
