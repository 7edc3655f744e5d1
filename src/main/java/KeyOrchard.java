import java.util.Arrays;

/**
 * The orchard of keys: trees that bear keys when they have had water enough, and prisoners behind
 * locks, with terms. The promises by number, and the words in capitals, are the document's.
 */
public final class KeyOrchard {
    public static final int UNKNOWN = -1, OUTSIDE = -2, STATE = -3, FULL = -4, NONE = -9;
    public static final long LOST = Long.MIN_VALUE;

    private static final int NULL = 1, CAST = 2, INDEX = 3, SIZE = 4;
    private static final int KIND_TREE = 0, KIND_GRAFTED = 1, KIND_OLD = 2, KINDS = 3;
    private static final int LANE_BYTES = 0, LANE_SHORTS = 1, LANES = 3;
    private static final int MAX_TREES = 6, MAX_PRISONERS = 6, LOCKS = 6, ALL_LOCKS = 63;
    private static final int DAYS = 30, LAST_DAY = 29, MAX_RAIN = 9;
    private static final int MAX_CROWS = 6, MAX_READINGS = 8;
    private static final int WATERING = 3, MAX_WATERINGS = 4;
    private static final int ODDS_RAIN = 3, MAX_ODDS_DAYS = 8;
    private static final int SHEETS = 4, MAX_CELLS = 50;
    private static final int NO_PLACE = -1, FAULT_BASE = -10, TEXT_BASE = -100, WORTH_BASE = 10000;

    private final Sheet[] sheets = new Sheet[SHEETS];
    private final Text text = new Text();
    private final Grove grove;
    private final Weather weather = new Weather();
    private final Readings readings = new Readings();
    private final Season season;
    private final Search search;
    private final Bodies bodies = new Bodies();
    private int latestFault = 0;

    public KeyOrchard() {
        // Parts that share parts get them here, so that nothing of a half-made object is handed out.
        Grove ground = new Grove();
        Season days = new Season(ground);
        grove = ground;
        season = days;
        search = new Search(ground, days);
        for (int k = 0; k < SHEETS; k++) {
            sheets[k] = new Sheet();
        }
    }

    // ---- 1 the orchard

    public int orchard(int sheet, int lane, int i, int n) {
        latestFault = 0;
        Sheet from = sheetOf(sheet);
        if (from == null) {
            return UNKNOWN;
        }
        if (!isLane(lane)) {
            return OUTSIDE;
        }
        if (from.isOfOtherLane(lane)) {
            return faulted(CAST);
        }
        if (!from.hasRow) {
            return faulted(NULL);
        }
        if (n < 0) {
            return faulted(SIZE);
        }
        if (!from.hasCells(i, n)) {
            return faulted(INDEX);
        }
        text.take(from, i, n);
        int firstFault = text.firstFault();
        if (firstFault != NO_PLACE) {
            return TEXT_BASE - firstFault;
        }
        grove.plant(text);
        weather.clear();
        readings.count = 0;
        return grove.trees;
    }

    public int ofTree(int t, int what) {
        if (!grove.hasTree(t)) {
            return UNKNOWN;
        }
        switch (what) {
            case 0:
                return grove.kind[t];
            case 1:
                return grove.lock[t];
            case 2:
                return grove.needs[t];
            case 3:
                return grove.wants[t];
            case 4:
                return grove.locksOpenedBy(t);
            case 5:
                return isIn(grove.felled, t) ? 1 : 0;
            default:
                return OUTSIDE;
        }
    }

    public int ofPrisoner(int p, int what) {
        if (!grove.hasPrisoner(p)) {
            return UNKNOWN;
        }
        switch (what) {
            case 0:
                return grove.prisonerLock[p];
            case 1:
                return grove.term[p];
            default:
                return OUTSIDE;
        }
    }

    public int rain(int day, int v) {
        if (!isDay(day)) {
            return UNKNOWN;
        }
        if (v < 0 || v > MAX_RAIN) {
            return OUTSIDE;
        }
        if (!grove.isPlanted()) {
            return STATE;
        }
        int before = weather.rain[day];
        weather.rain[day] = v;
        return before;
    }

    public int water(int day, int t) {
        if (!isDay(day) || t != NONE && !grove.hasTree(t)) {
            return UNKNOWN;
        }
        if (!grove.isPlanted()) {
            return STATE;
        }
        int before = weather.watered[day];
        weather.watered[day] = t;
        return before;
    }

    public int frost(int day, boolean is) {
        if (!isDay(day)) {
            return UNKNOWN;
        }
        if (!grove.isPlanted()) {
            return STATE;
        }
        if (isIn(weather.frosts, day) == is) {
            return 0;
        }
        weather.frosts ^= 1 << day;
        return 1;
    }

    public int crow(int day, int t) {
        if (!isDay(day) || !grove.hasTree(t)) {
            return UNKNOWN;
        }
        if (weather.crows >= MAX_CROWS) {
            return FULL;
        }
        return weather.addCrow(day, t);
    }

    public int shoo(int k) {
        if (k < 0 || k > weather.crows) {
            return OUTSIDE;
        }
        weather.crows -= k;
        return weather.crows;
    }

    public int fell(int t, boolean is) {
        if (!grove.hasTree(t)) {
            return UNKNOWN;
        }
        if (isIn(grove.felled, t) == is) {
            return 0;
        }
        grove.felled ^= 1 << t;
        return 1;
    }

    // ---- 2 days

    public int out(int p) {
        if (!grove.hasPrisoner(p)) {
            return UNKNOWN;
        }
        passAsTold(LAST_DAY);
        return season.outDay[p];
    }

    public int by(int p) {
        if (!grove.hasPrisoner(p)) {
            return UNKNOWN;
        }
        passAsTold(LAST_DAY);
        return season.outBy[p];
    }

    public int free(int day) {
        if (!isDay(day)) {
            return UNKNOWN;
        }
        if (!grove.isPlanted()) {
            return STATE;
        }
        passAsTold(day);
        return grove.allPrisoners() & ~season.inside;
    }

    public int has(int t, int day) {
        if (!grove.hasTree(t) || !isDay(day)) {
            return UNKNOWN;
        }
        passAsTold(day);
        return season.water[t];
    }

    // ---- 3 waterings, saws

    public int least(int p, int day, int q) {
        if (!grove.hasPrisoner(p) || !isDay(day) || q < -1) {
            return UNKNOWN;
        }
        season.prepare(weather);
        int k = search.fewestWaterings(p, day);
        if (k == NONE || q == -1) {
            return k;
        }
        return search.treeOfRow(k, q);
    }

    public int most(int day, int k, int q) {
        if (!isDay(day) || q < -1) {
            return UNKNOWN;
        }
        if (k < 0 || k > MAX_WATERINGS) {
            return OUTSIDE;
        }
        if (!grove.isPlanted()) {
            return STATE;
        }
        season.prepare(weather);
        int count = search.mostOut(day, k);
        if (q == -1) {
            return count;
        }
        return search.treeOfRow(k, q);
    }

    public int saws(int p, int day) {
        if (!grove.hasPrisoner(p) || !isDay(day)) {
            return UNKNOWN;
        }
        season.prepare(weather);
        int best = grove.allTrees() & ~grove.felled;
        for (int set = 0; set <= grove.allTrees(); set++) {
            boolean isNew = (set & grove.felled) == 0;
            if (isNew && Integer.bitCount(set) < Integer.bitCount(best)) {
                season.felled = grove.felled | set;
                season.passUntilOut(day, 1 << p);
                if (!season.isOutByTree(p)) {
                    best = set;
                }
            }
        }
        return best;
    }

    public int worth(int t) {
        if (!grove.hasTree(t)) {
            return UNKNOWN;
        }
        passAsTold(LAST_DAY);
        int asIs = season.sumOfOutDays();
        season.felled = grove.felled | 1 << t;
        season.pass(LAST_DAY);
        return season.sumOfOutDays() - asIs + WORTH_BASE;
    }

    // ---- 4 odds, green keys, thieves

    public long odds(int p, int n, int which) {
        if (!grove.hasPrisoner(p) || n < 0 || n > MAX_ODDS_DAYS || which < 0 || which > 1) {
            return LOST;
        }
        season.prepare(weather);
        int upper = 0;
        int lower = 1 << n;
        for (int rainy = 0; rainy < 1 << n; rainy++) {
            season.rainOn(rainy, n);
            season.passUntilOut(n - 1, 1 << p);
            if (season.isOutByTree(p)) {
                upper++;
            }
        }
        // The lower number is a power of 2: no other divisor is common.
        while (lower > 1 && (upper & 1) == 0) {
            upper /= 2;
            lower /= 2;
        }
        return which == 0 ? upper : lower;
    }

    public int green(int lock, int k) {
        if (lock < 0 || lock >= LOCKS) {
            return OUTSIDE;
        }
        if (k < -1) {
            return UNKNOWN;
        }
        if (!grove.isPlanted()) {
            return STATE;
        }
        int count = 0;
        for (int set = 0; set <= grove.allTrees(); set++) {
            if (grove.isGreen(set, lock)) {
                if (count == k) {
                    return set;
                }
                count++;
            }
        }
        return k == -1 ? count : NONE;
    }

    public int reading(int p, int day, boolean isOut) {
        if (!grove.hasPrisoner(p) || !isDay(day)) {
            return UNKNOWN;
        }
        if (readings.count >= MAX_READINGS) {
            return FULL;
        }
        return readings.add(p, day, isOut);
    }

    public int back(int k) {
        if (k < 0 || k > readings.count) {
            return OUTSIDE;
        }
        readings.count -= k;
        return readings.count;
    }

    public int thief(int day) {
        if (!isDay(day)) {
            return UNKNOWN;
        }
        if (!grove.isPlanted()) {
            return STATE;
        }
        season.prepare(weather);
        int asTold = season.crowsOn[day];
        int thieves = 0;
        for (int t = 0; t < grove.trees; t++) {
            season.crowsOn[day] = asTold | 1 << t;
            season.pass(LAST_DAY);
            if (readings.agreeWith(season)) {
                thieves |= 1 << t;
            }
        }
        return thieves;
    }

    // ---- 5 sheets, parts

    public int sheet(int k, int lane, int n) {
        latestFault = 0;
        Sheet sheet = sheetOf(k);
        if (sheet == null) {
            return UNKNOWN;
        }
        if (!isLane(lane) || n > MAX_CELLS) {
            return OUTSIDE;
        }
        if (n < 0) {
            return faulted(SIZE);
        }
        sheet.renew(lane, n);
        return 1;
    }

    public int lose(int k) {
        Sheet sheet = sheetOf(k);
        if (sheet == null) {
            return UNKNOWN;
        }
        if (!sheet.hasRow) {
            return 0;
        }
        sheet.hasRow = false;
        return 1;
    }

    public int put(int k, int i, int v) {
        latestFault = 0;
        Sheet sheet = sheetOf(k);
        if (sheet == null) {
            return UNKNOWN;
        }
        if (!sheet.hasRow) {
            return faulted(NULL);
        }
        if (!sheet.hasCells(i, 1)) {
            return faulted(INDEX);
        }
        sheet.cells[i] = sheet.cutToLane(v);
        return 1;
    }

    public long cell(int k, int i, int lane) {
        latestFault = 0;
        Sheet sheet = sheetOf(k);
        if (sheet == null || !isLane(lane)) {
            return LOST;
        }
        if (sheet.isOfOtherLane(lane)) {
            return lostBy(CAST);
        }
        if (!sheet.hasRow) {
            return lostBy(NULL);
        }
        if (!sheet.hasCells(i, 1)) {
            return lostBy(INDEX);
        }
        return sheet.cells[i];
    }

    public int copy(int k, int i, int other, int j, int n) {
        latestFault = 0;
        Sheet from = sheetOf(k);
        Sheet to = sheetOf(other);
        if (from == null || to == null) {
            return UNKNOWN;
        }
        if (!from.hasRow || !to.hasRow) {
            return faulted(NULL);
        }
        if (from.lane != to.lane) {
            return faulted(CAST);
        }
        if (!from.hasCells(i, n) || !to.hasCells(j, n)) {
            return faulted(INDEX);
        }
        System.arraycopy(from.cells, i, to.cells, j, n);
        return n;
    }

    public int tell(int t) {
        if (!grove.hasTree(t)) {
            return UNKNOWN;
        }
        int needs = grove.needs[t];
        switch (grove.kind[t]) {
            case KIND_GRAFTED:
                return bodies.tellGrafted(needs);
            case KIND_OLD:
                return bodies.tellOld(needs);
            default:
                return bodies.tellTree(needs);
        }
    }

    public int shake(int t) {
        if (!grove.hasTree(t)) {
            return UNKNOWN;
        }
        return grove.kind[t] == KIND_OLD ? bodies.shakeOld() : bodies.shakeLent(t);
    }

    public int as(int t, int kind) {
        latestFault = 0;
        if (!grove.hasTree(t)) {
            return UNKNOWN;
        }
        if (kind < 0 || kind >= KINDS) {
            return OUTSIDE;
        }
        // Each kind is one of all the kinds numbered below it, too.
        return grove.kind[t] >= kind ? 1 : faulted(CAST);
    }

    public int trace() {
        return bodies.trace;
    }

    public int fault() {
        return latestFault;
    }

    public int many(int what) {
        switch (what) {
            case 0:
                return grove.trees;
            case 1:
                return grove.prisoners;
            case 2:
                return weather.crows;
            case 3:
                return readings.count;
            default:
                return OUTSIDE;
        }
    }

    // ---- what several calls need

    private Sheet sheetOf(int k) {
        return k >= 0 && k < SHEETS ? sheets[k] : null;
    }

    private int faulted(int which) {
        latestFault = which;
        return FAULT_BASE - which;
    }

    private long lostBy(int which) {
        latestFault = which;
        return LOST;
    }

    private void passAsTold(int lastDay) {
        season.prepare(weather);
        season.pass(lastDay);
    }

    private static boolean isDay(int day) {
        return day >= 0 && day < DAYS;
    }

    private static boolean isLane(int lane) {
        return lane >= 0 && lane < LANES;
    }

    private static boolean isIn(int set, int number) {
        return (set >> number & 1) != 0;
    }

    /** A row of numbers of a LANE, or nothing. */
    private static final class Sheet {
        final int[] cells = new int[MAX_CELLS];
        boolean hasRow = false;
        int lane = 0;
        int length = 0;

        void renew(int newLane, int newLength) {
            Arrays.fill(cells, 0);
            hasRow = true;
            lane = newLane;
            length = newLength;
        }

        /** Nothing can be taken as a row of any LANE. */
        boolean isOfOtherLane(int asked) {
            return hasRow && lane != asked;
        }

        boolean hasCells(int from, int n) {
            return from >= 0 && from <= length && n >= 0 && n <= length - from;
        }

        int cutToLane(int v) {
            switch (lane) {
                case LANE_BYTES:
                    return (byte) v;
                case LANE_SHORTS:
                    return (short) v;
                default:
                    return v;
            }
        }
    }

    /** The codes of a TEXT; it is read to its end before anything is planted. */
    private static final class Text {
        private final int[] codes = new int[MAX_CELLS];
        private int length = 0;
        int trees = 0;
        int prisoners = 0;

        void take(Sheet sheet, int from, int n) {
            System.arraycopy(sheet.cells, from, codes, 0, n);
            length = n;
        }

        /** The first place at which no TEXT goes on, or NO_PLACE; it counts TREES and PRISONERS. */
        int firstFault() {
            trees = 0;
            prisoners = 0;
            if (codeAt(0) != 'k') {
                return 0;
            }
            int place = 1;
            while (trees < MAX_TREES && kindAt(place) != NONE) {
                if (!isDigit(place + 1, 0, LOCKS - 1)) {
                    return place + 1;
                }
                if (!isDigit(place + 2, 1, 9)) {
                    return place + 2;
                }
                trees++;
                place += 3;
            }
            if (trees == 0) {
                return place;
            }
            while (prisoners < MAX_PRISONERS && codeAt(place) == ';') {
                if (!isDigit(place + 1, 0, LOCKS - 1)) {
                    return place + 1;
                }
                if (!isDigit(place + 2, 0, 2)) {
                    return place + 2;
                }
                if (!isDigit(place + 3, 0, 9)) {
                    return place + 3;
                }
                prisoners++;
                place += 4;
            }
            return prisoners == 0 || place < length ? place : NO_PLACE;
        }

        private int codeAt(int place) {
            return place >= 0 && place < length ? codes[place] : NONE;
        }

        int kindAt(int place) {
            switch (codeAt(place)) {
                case 't':
                    return KIND_TREE;
                case 'g':
                    return KIND_GRAFTED;
                case 'o':
                    return KIND_OLD;
                default:
                    return NONE;
            }
        }

        int digitAt(int place) {
            return codeAt(place) - '0';
        }

        /** A DAY, whatever the text says. */
        int termAt(int place) {
            int term = 10 * digitAt(place) + digitAt(place + 1);
            return isDay(term) ? term : LAST_DAY;
        }

        private boolean isDigit(int place, int least, int most) {
            return place < length && digitAt(place) >= least && digitAt(place) <= most;
        }
    }

    /** TREES and PRISONERS as the TEXT told them, and which TREES are FELLED. */
    private static final class Grove {
        int trees = 0;
        int prisoners = 0;
        int felled = 0;
        final int[] kind = new int[MAX_TREES];
        final int[] lock = new int[MAX_TREES];
        final int[] needs = new int[MAX_TREES];
        final int[] wants = new int[MAX_TREES];
        /** By TREE: the PRISONERS whose LOCK its key OPENS, as a set. */
        final int[] fits = new int[MAX_TREES];
        final int[] prisonerLock = new int[MAX_PRISONERS];
        final int[] term = new int[MAX_PRISONERS];
        /** By DAY: the PRISONERS whose TERM it is, as a set. */
        final int[] endingOn = new int[DAYS];

        void plant(Text text) {
            trees = text.trees;
            prisoners = text.prisoners;
            felled = 0;
            int place = 1;
            for (int t = 0; t < trees; t++) {
                kind[t] = text.kindAt(place);
                lock[t] = text.digitAt(place + 1);
                needs[t] = text.digitAt(place + 2);
                wants[t] = waterWantedBy(t);
                place += 3;
            }
            Arrays.fill(endingOn, 0);
            for (int p = 0; p < prisoners; p++) {
                prisonerLock[p] = text.digitAt(place + 1);
                term[p] = text.termAt(place + 2);
                endingOn[term[p]] |= 1 << p;
                place += 4;
            }
            for (int t = 0; t < trees; t++) {
                fits[t] = prisonersFitting(t);
            }
        }

        private int waterWantedBy(int t) {
            int grafted = needs[t] + 1;
            switch (kind[t]) {
                case KIND_GRAFTED:
                    return grafted;
                case KIND_OLD:
                    return 2 * grafted;
                default:
                    return needs[t];
            }
        }

        int locksOpenedBy(int t) {
            int own = 1 << lock[t];
            switch (kind[t]) {
                case KIND_GRAFTED:
                    return own | 1 << (lock[t] + 1) % LOCKS;
                case KIND_OLD:
                    return ALL_LOCKS;
                default:
                    return own;
            }
        }

        private int prisonersFitting(int t) {
            int opened = locksOpenedBy(t);
            int fitting = 0;
            for (int p = 0; p < prisoners; p++) {
                if (isIn(opened, prisonerLock[p])) {
                    fitting |= 1 << p;
                }
            }
            return fitting;
        }

        boolean isPlanted() {
            return trees > 0;
        }

        boolean hasTree(int t) {
            return t >= 0 && t < trees;
        }

        boolean hasPrisoner(int p) {
            return p >= 0 && p < prisoners;
        }

        int allTrees() {
            return (1 << trees) - 1;
        }

        int allPrisoners() {
            return (1 << prisoners) - 1;
        }

        boolean isGreen(int set, int toldLock) {
            if (Integer.bitCount(set) != 3 || (set & felled) != 0) {
                return false;
            }
            int sum = 0;
            for (int t = 0; t < trees; t++) {
                if (isIn(set, t)) {
                    sum += lock[t];
                }
            }
            return sum % LOCKS == toldLock;
        }
    }

    /** RAIN, what is WATERED, FROSTS and CROWS as they were told. */
    private static final class Weather {
        final int[] rain = new int[DAYS];
        final int[] watered = new int[DAYS];
        final int[] crowDay = new int[MAX_CROWS];
        final int[] crowTree = new int[MAX_CROWS];
        int frosts = 0;
        int crows = 0;

        void clear() {
            Arrays.fill(rain, 0);
            Arrays.fill(watered, NONE);
            frosts = 0;
            crows = 0;
        }

        int addCrow(int day, int t) {
            crowDay[crows] = day;
            crowTree[crows] = t;
            crows++;
            return crows - 1;
        }
    }

    /** READINGS: who was OUT, or not, at the end of a DAY. */
    private static final class Readings {
        private final int[] prisoner = new int[MAX_READINGS];
        private final int[] day = new int[MAX_READINGS];
        private final boolean[] wasOut = new boolean[MAX_READINGS];
        int count = 0;

        int add(int p, int d, boolean isOut) {
            prisoner[count] = p;
            day[count] = d;
            wasOut[count] = isOut;
            count++;
            return count - 1;
        }

        /** The season has passed all DAYS. */
        boolean agreeWith(Season season) {
            for (int r = 0; r < count; r++) {
                boolean isOut = season.outDay[prisoner[r]] <= day[r];
                if (isOut != wasOut[r]) {
                    return false;
                }
            }
            return true;
        }
    }

    /** The DAYS as they pass, by copies of what was told: a what-if changes the copies alone. */
    private static final class Season {
        private final Grove grove;
        private final int[] rain = new int[DAYS];
        final int[] watered = new int[DAYS];
        /** By DAY: the TREES that CROWS come to, as a set: a second CROW there finds nothing. */
        final int[] crowsOn = new int[DAYS];
        private int frosts = 0;
        int felled = 0;
        final int[] water = new int[MAX_TREES];
        final int[] outDay = new int[MAX_PRISONERS];
        final int[] outBy = new int[MAX_PRISONERS];
        int inside = 0;

        Season(Grove grove) {
            this.grove = grove;
        }

        void prepare(Weather weather) {
            System.arraycopy(weather.rain, 0, rain, 0, DAYS);
            System.arraycopy(weather.watered, 0, watered, 0, DAYS);
            Arrays.fill(crowsOn, 0);
            for (int c = 0; c < weather.crows; c++) {
                crowsOn[weather.crowDay[c]] |= 1 << weather.crowTree[c];
            }
            frosts = weather.frosts;
            felled = grove.felled;
        }

        /** RAIN of each of the first n DAYS: as ODDS have it, where the DAY is in the set, or 0. */
        void rainOn(int set, int n) {
            for (int day = 0; day < n && day < DAYS; day++) {
                rain[day] = isIn(set, day) ? ODDS_RAIN : 0;
            }
        }

        void pass(int lastDay) {
            begin();
            for (int day = 0; day <= lastDay && day < DAYS; day++) {
                passDay(day);
            }
        }

        /** Ends, too, when none of the PRISONERS of the set is in: by then it is told how they came OUT. */
        void passUntilOut(int lastDay, int set) {
            begin();
            for (int day = 0; day <= lastDay && day < DAYS && (inside & set) != 0; day++) {
                passDay(day);
            }
        }

        boolean isOutByTree(int p) {
            return outBy[p] != NONE;
        }

        int countOutByTrees() {
            int count = 0;
            for (int p = 0; p < grove.prisoners; p++) {
                if (isOutByTree(p)) {
                    count++;
                }
            }
            return count;
        }

        int sumOfOutDays() {
            int sum = 0;
            for (int p = 0; p < grove.prisoners; p++) {
                sum += outDay[p];
            }
            return sum;
        }

        private void begin() {
            Arrays.fill(water, 0);
            Arrays.fill(outDay, NONE);
            Arrays.fill(outBy, NONE);
            inside = grove.allPrisoners();
        }

        private void passDay(int day) {
            boolean isWet = !isIn(frosts, day) && (rain[day] > 0 || watered[day] != NONE);
            if (isWet) {
                giveWater(rain[day], watered[day]);
            }
            if (crowsOn[day] != 0) {
                sendCrows(crowsOn[day]);
            }
            // The keys of a DAY leave no ripe TREE that could let one OUT: that takes new water.
            if (isWet) {
                turnKeys(day);
            }
            int ending = grove.endingOn[day] & inside;
            if (ending != 0) {
                endTerms(ending, day);
            }
        }

        private void giveWater(int amount, int wateredTree) {
            for (int t = 0; t < grove.trees; t++) {
                water[t] += amount;
            }
            if (grove.hasTree(wateredTree)) {
                water[wateredTree] += WATERING;
            }
        }

        private void sendCrows(int set) {
            for (int t = 0; t < grove.trees; t++) {
                if (isIn(set, t) && isRipe(t)) {
                    water[t] = 0;
                }
            }
        }

        private boolean isRipe(int t) {
            return water[t] >= grove.wants[t];
        }

        private void turnKeys(int day) {
            for (int t = 0; t < grove.trees; t++) {
                int fitting = grove.fits[t] & inside;
                if (fitting != 0 && isRipe(t) && !isIn(felled, t)) {
                    letOut(leastOf(fitting), day, t);
                    water[t] = 0;
                }
            }
        }

        /** The set is not empty. */
        private int leastOf(int set) {
            int p = 0;
            while (p < MAX_PRISONERS - 1 && !isIn(set, p)) {
                p++;
            }
            return p;
        }

        private void endTerms(int set, int day) {
            for (int p = 0; p < grove.prisoners; p++) {
                if (isIn(set, p)) {
                    letOut(p, day, NONE);
                }
            }
        }

        private void letOut(int p, int day, int t) {
            inside &= ~(1 << p);
            outDay[p] = day;
            outBy[p] = t;
        }
    }

    /** LEAST and MOST: rows of TREES that are WATERED from DAY 0 on, one a DAY, first rows first. */
    private static final class Search {
        private final Grove grove;
        private final Season season;
        private final int[] found = new int[MAX_WATERINGS];

        Search(Grove grove, Season season) {
            this.grove = grove;
            this.season = season;
        }

        /** The fewest WATERINGS by which the PRISONER is OUT, or NONE; their row is found. */
        int fewestWaterings(int p, int day) {
            for (int k = 0; k <= MAX_WATERINGS; k++) {
                int rows = howManyRows(k);
                for (int row = 0; row < rows; row++) {
                    waterBy(row, k);
                    season.passUntilOut(day, 1 << p);
                    if (season.isOutByTree(p)) {
                        keep(k);
                        return k;
                    }
                }
            }
            return NONE;
        }

        /** How many are OUT at most by k WATERINGS; their first row is found. */
        int mostOut(int day, int k) {
            int most = -1;
            int rows = howManyRows(k);
            for (int row = 0; row < rows; row++) {
                waterBy(row, k);
                season.passUntilOut(day, grove.allPrisoners());
                int count = season.countOutByTrees();
                if (count > most) {
                    most = count;
                    keep(k);
                }
            }
            return most;
        }

        /** The q-th TREE of the row of k that was found; NONE, if there are fewer. */
        int treeOfRow(int k, int q) {
            return q >= 0 && q < k && q < MAX_WATERINGS ? found[q] : NONE;
        }

        private int howManyRows(int k) {
            int rows = 1;
            for (int i = 0; i < k; i++) {
                rows *= grove.trees;
            }
            return rows;
        }

        /** A row's number has its TREES as digits, the first DAY's foremost. */
        private void waterBy(int row, int k) {
            Arrays.fill(season.watered, NONE);
            int rest = row;
            for (int day = k - 1; day >= 0 && grove.trees > 0; day--) {
                season.watered[day] = rest % grove.trees;
                rest /= grove.trees;
            }
        }

        private void keep(int k) {
            System.arraycopy(season.watered, 0, found, 0, k);
        }
    }

    /** The bodies of TELLING and SHAKEN: each leaves its number in TRACE as it begins. */
    private static final class Bodies {
        int trace = 0;

        int tellTree(int needs) {
            leave(1);
            return needs;
        }

        int tellGrafted(int needs) {
            leave(2);
            return tellTree(needs) + 100;
        }

        int tellOld(int needs) {
            leave(3);
            int grafted = tellGrafted(needs);
            return grafted + tellTree(needs);
        }

        int shakeLent(int t) {
            leave(4);
            return t;
        }

        int shakeOld() {
            leave(5);
            return 60;
        }

        private void leave(int number) {
            trace = 31 * trace + number;
        }
    }
}
