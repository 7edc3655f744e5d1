import java.util.ArrayList;
import java.util.List;

/**
 * REFUSALS and FAULTS of each call: just outside what is told and far outside, two reasons at once,
 * and that nothing is changed by them but, where a call names FAULTS, what fault() tells.
 */
public final class RefusalsTest extends Checks {
    private static final int[] NO_TREE = {-1, NONE, 4, LEAST, MOST}, NO_PRISONER = NO_TREE, NO_SHEET = NO_TREE;
    private static final int[] NO_DAY = {-1, NONE, 30, 31, LEAST, MOST};
    private static final int[] NO_LANE = {-1, 3, LEAST, MOST};
    private static final int[] BELOW_ALL = {-2, LEAST};
    private static final int BEFORE = 1;
    private static final boolean[] YES_NO = {true, false};

    private interface Call {
        long on(KeyOrchard x);
    }

    private enum Past { NEW, BUSY, CROWDED }

    private RefusalsTest() {
    }

    public static void main(String[] args) {
        texts();
        partsOfAnOrchard();
        rainAndWater();
        frostAndFell();
        crows();
        days();
        waterings();
        oddsAndGreen();
        readings();
        sheets();
        cells();
        copies();
        parts();
        unknownWithoutAnOrchard();
        stateWithoutAnOrchard();
        askingChangesNothing();
        end("refusals are as told, and change nothing");
    }

    /** Always the same past, so that two objects can be compared; fault() tells 1 behind it. */
    private static KeyOrchard after(Past past) {
        KeyOrchard x = new KeyOrchard();
        if (past != Past.NEW) {
            due(plant(x, "kt03g14o22t51;029;112;220;505"), 4, "orchard");
            x.sheet(1, SHORTS, 3);
            x.put(1, 0, -2);
            x.put(1, 2, 300);
            x.sheet(2, INTS, 2);
            x.put(2, 1, 70000);
            x.rain(0, 2);
            x.rain(1, 5);
            x.rain(5, 9);
            x.water(0, 1);
            x.water(3, 2);
            x.frost(1, true);
            x.frost(8, true);
            x.fell(3, true);
            x.tell(2);
            x.shake(1);
            for (int c = 0; c < (past == Past.CROWDED ? 6 : 2); c++) {
                x.crow(2 + 3 * (c % 2), c % 4);
            }
            for (int r = 0; r < (past == Past.CROWDED ? 8 : 2); r++) {
                x.reading(1 + r % 2, r % 2 == 0 ? 2 + r : 5 + r, true);
            }
        }
        due(x.put(3, 0, 0), NULL, "put into nothing");
        return x;
    }

    /** What can be seen from outside but for fault(); it spoils the object. */
    private static List<Long> allThatIs(KeyOrchard x) {
        List<Long> all = new ArrayList<>();
        all.add((long) x.trace());
        for (int i = 0; i < 4; i++) {
            all.add((long) x.many(i));
            for (int what = 0; what < 6; what++) {
                all.add((long) x.ofTree(i, what));
            }
            all.add((long) x.ofPrisoner(i, 0));
            all.add((long) x.ofPrisoner(i, 1));
            all.add((long) x.out(i));
            all.add((long) x.by(i));
            for (int day = 0; day < 10; day++) {
                all.add((long) x.has(i, day));
            }
            for (int lane = 0; lane < 3; lane++) {
                for (int cell = 0; cell < 8; cell++) {
                    all.add(x.cell(i, cell, lane));
                }
            }
        }
        for (int day = 0; day < 30; day++) {
            all.add((long) x.thief(day));
            all.add((long) x.rain(day, 0));
            all.add((long) x.water(day, NONE));
            all.add((long) x.frost(day, true));
        }
        return all;
    }

    private static void leaves(Past past, String name, long answer, int faultBehind, Call call) {
        KeyOrchard x = after(past);
        String told = past + " " + name;
        due(call.on(x), answer, told);
        due(x.fault(), faultBehind, "fault() behind " + told);
        List<Long> got = allThatIs(x);
        List<Long> want = allThatIs(after(past));
        for (int i = 0; i < want.size(); i++) {
            due(got.get(i), want.get(i), "what is (" + i + ") behind " + told);
        }
    }

    /** Of a call that names no FAULTS: fault() tells what it told before. */
    private static void refused(Past past, String name, long answer, Call call) {
        leaves(past, name, answer, BEFORE, call);
    }

    private static void faulted(Past past, String name, int answer, Call call) {
        leaves(past, name, answer, -10 - answer, call);
    }

    /** Of a call that names FAULTS: it came to none. */
    private static void refusedNamingFaults(Past past, String name, long answer, Call call) {
        leaves(past, name, answer, 0, call);
    }

    private static void texts() {
        says("orchard: UNKNOWN; OUTSIDE: lane; FAULTS CAST, NULL, SIZE, INDEX; -100 less it");
        for (int k : NO_SHEET) {
            refusedNamingFaults(Past.BUSY, "orchard(" + k + ", 3, 30, -1)", UNKNOWN, x -> x.orchard(k, 3, 30, -1));
            refusedNamingFaults(Past.NEW, "orchard(" + k + ", 0, 0, 0)", UNKNOWN, x -> x.orchard(k, 0, 0, 0));
        }
        for (int lane : NO_LANE) {
            refusedNamingFaults(Past.BUSY, "orchard(0, " + lane + ", 30, -1)", OUTSIDE,
                x -> x.orchard(0, lane, 30, -1));
            refusedNamingFaults(Past.BUSY, "orchard of nothing, " + lane, OUTSIDE, x -> x.orchard(3, lane, 0, 0));
        }
        int[] others = {1, 2, 0, 2, 0, 1};
        for (int i = 0; i < others.length; i++) {
            int k = i / 2, lane = others[i];
            faulted(Past.BUSY, "orchard(" + k + ", " + lane + ", 30, -1)", CAST, x -> x.orchard(k, lane, 30, -1));
        }
        for (int lane = 0; lane < 3; lane++) {
            int any = lane;
            faulted(Past.BUSY, "orchard of nothing, " + lane, NULL, x -> x.orchard(3, any, -1, -1));
            faulted(Past.NEW, "orchard of nothing, " + lane, NULL, x -> x.orchard(0, any, 0, 1));
        }
        for (int n : new int[] {-1, LEAST}) {
            faulted(Past.BUSY, "orchard(0, 0, 30, " + n + ")", SIZE, x -> x.orchard(0, 0, 30, n));
            faulted(Past.BUSY, "orchard(0, 0, 0, " + n + ")", SIZE, x -> x.orchard(0, 0, 0, n));
            faulted(Past.BUSY, "orchard(0, 0, -1, " + n + ")", SIZE, x -> x.orchard(0, 0, -1, n));
        }
        int[][] beyond = {{0, 30}, {1, 29}, {29, 1}, {30, 0}, {-1, 0}, {-1, 1}, {-1, 30}, {LEAST, 0}, {LEAST, MOST},
            {MOST, 0}, {MOST, MOST}, {0, MOST}, {29, MOST}, {1, MOST}};
        for (int[] b : beyond) {
            faulted(Past.BUSY, "orchard(0, 0, " + b[0] + ", " + b[1] + ")", INDEX, x -> x.orchard(0, 0, b[0], b[1]));
        }
        int[][] broken = {{0, 0, 0}, {29, 0, 0}, {0, 1, 1}, {0, 12, 12}, {0, 13, 13}, {0, 16, 16}, {0, 28, 28},
            {1, 28, 0}, {28, 1, 0}};
        for (int[] b : broken) {
            refusedNamingFaults(Past.BUSY, "orchard(0, 0, " + b[0] + ", " + b[1] + ")", -100 - b[2],
                x -> x.orchard(0, 0, b[0], b[1]));
        }
        refusedNamingFaults(Past.BUSY, "orchard of shorts", -100, x -> x.orchard(1, 1, 0, 3));
    }

    private static void partsOfAnOrchard() {
        says("ofTree: UNKNOWN; OUTSIDE");
        for (int t : NO_TREE) {
            refused(Past.BUSY, "ofTree(" + t + ", 6)", UNKNOWN, x -> x.ofTree(t, 6));
            refused(Past.BUSY, "ofTree(" + t + ", 0)", UNKNOWN, x -> x.ofTree(t, 0));
        }
        for (int what : new int[] {-1, 6, LEAST, MOST}) {
            refused(Past.BUSY, "ofTree(3, " + what + ")", OUTSIDE, x -> x.ofTree(3, what));
        }
        says("ofPrisoner: UNKNOWN; OUTSIDE");
        for (int p : NO_PRISONER) {
            refused(Past.BUSY, "ofPrisoner(" + p + ", 2)", UNKNOWN, x -> x.ofPrisoner(p, 2));
            refused(Past.BUSY, "ofPrisoner(" + p + ", 0)", UNKNOWN, x -> x.ofPrisoner(p, 0));
        }
        for (int what : new int[] {-1, 2, LEAST, MOST}) {
            refused(Past.BUSY, "ofPrisoner(3, " + what + ")", OUTSIDE, x -> x.ofPrisoner(3, what));
        }
        says("many: OUTSIDE");
        for (int what : new int[] {-1, 4, LEAST, MOST}) {
            refused(Past.BUSY, "many(" + what + ")", OUTSIDE, x -> x.many(what));
            refused(Past.NEW, "many(" + what + ")", OUTSIDE, x -> x.many(what));
        }
    }

    private static void rainAndWater() {
        says("rain: UNKNOWN; OUTSIDE; STATE");
        for (int day : NO_DAY) {
            refused(Past.BUSY, "rain(" + day + ", 10)", UNKNOWN, x -> x.rain(day, 10));
            refused(Past.BUSY, "rain(" + day + ", 0)", UNKNOWN, x -> x.rain(day, 0));
            refused(Past.NEW, "rain(" + day + ", -1)", UNKNOWN, x -> x.rain(day, -1));
        }
        for (int v : new int[] {-1, NONE, 10, LEAST, MOST}) {
            refused(Past.BUSY, "rain(1, " + v + ")", OUTSIDE, x -> x.rain(1, v));
            refused(Past.NEW, "rain(29, " + v + ")", OUTSIDE, x -> x.rain(29, v));
        }
        says("water: UNKNOWN: DAY, TREE; STATE");
        for (int day : NO_DAY) {
            refused(Past.BUSY, "water(" + day + ", 0)", UNKNOWN, x -> x.water(day, 0));
            refused(Past.BUSY, "water(" + day + ", NONE)", UNKNOWN, x -> x.water(day, NONE));
            refused(Past.NEW, "water(" + day + ", NONE)", UNKNOWN, x -> x.water(day, NONE));
        }
        for (int t : new int[] {-1, -8, -10, 4, LEAST, MOST}) {
            refused(Past.BUSY, "water(0, " + t + ")", UNKNOWN, x -> x.water(0, t));
        }
    }

    private static void frostAndFell() {
        for (boolean is : YES_NO) {
            says("frost: UNKNOWN; STATE");
            for (int day : NO_DAY) {
                refused(Past.BUSY, "frost(" + day + ", " + is + ")", UNKNOWN, x -> x.frost(day, is));
                refused(Past.NEW, "frost(" + day + ", " + is + ")", UNKNOWN, x -> x.frost(day, is));
            }
            says("fell: UNKNOWN");
            for (int t : NO_TREE) {
                refused(Past.BUSY, "fell(" + t + ", " + is + ")", UNKNOWN, x -> x.fell(t, is));
            }
        }
    }

    private static void crows() {
        says("crow: UNKNOWN: DAY, TREE; FULL");
        for (Past past : new Past[] {Past.BUSY, Past.CROWDED}) {
            for (int day : NO_DAY) {
                refused(past, "crow(" + day + ", 0)", UNKNOWN, x -> x.crow(day, 0));
            }
            for (int t : NO_TREE) {
                refused(past, "crow(0, " + t + ")", UNKNOWN, x -> x.crow(0, t));
            }
        }
        refused(Past.CROWDED, "crow(0, 0), the seventh", FULL, x -> x.crow(0, 0));
        refused(Past.CROWDED, "crow(29, 3), the seventh", FULL, x -> x.crow(29, 3));
        says("shoo: OUTSIDE");
        for (int k : new int[] {-1, LEAST, MOST}) {
            refused(Past.BUSY, "shoo(" + k + ")", OUTSIDE, x -> x.shoo(k));
        }
        refused(Past.NEW, "shoo(1)", OUTSIDE, x -> x.shoo(1));
        refused(Past.BUSY, "shoo(3) of 2", OUTSIDE, x -> x.shoo(3));
        refused(Past.CROWDED, "shoo(7) of 6", OUTSIDE, x -> x.shoo(7));
    }

    private static void days() {
        says("out, by: UNKNOWN");
        for (int p : NO_PRISONER) {
            refused(Past.BUSY, "out(" + p + ")", UNKNOWN, x -> x.out(p));
            refused(Past.BUSY, "by(" + p + ")", UNKNOWN, x -> x.by(p));
        }
        says("free: UNKNOWN; STATE");
        for (int day : NO_DAY) {
            refused(Past.BUSY, "free(" + day + ")", UNKNOWN, x -> x.free(day));
            refused(Past.NEW, "free(" + day + ")", UNKNOWN, x -> x.free(day));
        }
        says("has: UNKNOWN: TREE, DAY");
        for (int t : NO_TREE) {
            refused(Past.BUSY, "has(" + t + ", 0)", UNKNOWN, x -> x.has(t, 0));
        }
        for (int day : NO_DAY) {
            refused(Past.BUSY, "has(0, " + day + ")", UNKNOWN, x -> x.has(0, day));
        }
    }

    private static void waterings() {
        says("least: UNKNOWN: PRISONER, DAY, q below -1");
        for (int p : NO_PRISONER) {
            refused(Past.BUSY, "least(" + p + ", 0, 0)", UNKNOWN, x -> x.least(p, 0, 0));
            refused(Past.BUSY, "saws(" + p + ", 0)", UNKNOWN, x -> x.saws(p, 0));
        }
        for (int day : NO_DAY) {
            refused(Past.BUSY, "least(0, " + day + ", 0)", UNKNOWN, x -> x.least(0, day, 0));
            refused(Past.BUSY, "saws(0, " + day + ")", UNKNOWN, x -> x.saws(0, day));
        }
        for (int q : BELOW_ALL) {
            refused(Past.BUSY, "least(0, 29, " + q + ")", UNKNOWN, x -> x.least(0, 29, q));
        }
        says("most: UNKNOWN: DAY, q below -1; OUTSIDE: k; STATE");
        for (int day : NO_DAY) {
            refused(Past.BUSY, "most(" + day + ", 5, 0)", UNKNOWN, x -> x.most(day, 5, 0));
            refused(Past.BUSY, "most(" + day + ", 4, 0)", UNKNOWN, x -> x.most(day, 4, 0));
            refused(Past.NEW, "most(" + day + ", -1, 0)", UNKNOWN, x -> x.most(day, -1, 0));
        }
        for (int q : BELOW_ALL) {
            refused(Past.BUSY, "most(0, 5, " + q + ")", UNKNOWN, x -> x.most(0, 5, q));
            refused(Past.NEW, "most(0, 0, " + q + ")", UNKNOWN, x -> x.most(0, 0, q));
        }
        for (int k : new int[] {-1, 5, LEAST, MOST}) {
            refused(Past.BUSY, "most(0, " + k + ", 0)", OUTSIDE, x -> x.most(0, k, 0));
            refused(Past.NEW, "most(0, " + k + ", -1)", OUTSIDE, x -> x.most(0, k, -1));
        }
        says("worth: UNKNOWN");
        for (int t : NO_TREE) {
            refused(Past.BUSY, "worth(" + t + ")", UNKNOWN, x -> x.worth(t));
        }
    }

    private static void oddsAndGreen() {
        says("odds: LOST: UNKNOWN; OUTSIDE: n, which");
        for (int p : NO_PRISONER) {
            refused(Past.BUSY, "odds(" + p + ", 0, 0)", LOST, x -> x.odds(p, 0, 0));
        }
        for (int n : new int[] {-1, 9, LEAST, MOST}) {
            refused(Past.BUSY, "odds(0, " + n + ", 0)", LOST, x -> x.odds(0, n, 0));
        }
        for (int which : new int[] {-1, 2, LEAST, MOST}) {
            refused(Past.BUSY, "odds(0, 8, " + which + ")", LOST, x -> x.odds(0, 8, which));
        }
        says("green: OUTSIDE: lock; UNKNOWN: k below -1; STATE");
        for (int lock : new int[] {-1, 6, LEAST, MOST}) {
            refused(Past.BUSY, "green(" + lock + ", -2)", OUTSIDE, x -> x.green(lock, -2));
            refused(Past.BUSY, "green(" + lock + ", -1)", OUTSIDE, x -> x.green(lock, -1));
            refused(Past.NEW, "green(" + lock + ", 0)", OUTSIDE, x -> x.green(lock, 0));
        }
        for (int k : BELOW_ALL) {
            refused(Past.BUSY, "green(5, " + k + ")", UNKNOWN, x -> x.green(5, k));
            refused(Past.NEW, "green(0, " + k + ")", UNKNOWN, x -> x.green(0, k));
        }
    }

    private static void readings() {
        for (boolean is : YES_NO) {
            says("reading: UNKNOWN: PRISONER, DAY; FULL");
            for (Past past : new Past[] {Past.BUSY, Past.CROWDED}) {
                for (int p : NO_PRISONER) {
                    refused(past, "reading(" + p + ", 0, " + is + ")", UNKNOWN, x -> x.reading(p, 0, is));
                }
                for (int day : NO_DAY) {
                    refused(past, "reading(0, " + day + ", " + is + ")", UNKNOWN, x -> x.reading(0, day, is));
                }
            }
            refused(Past.CROWDED, "reading(3, 29, " + is + "), the ninth", FULL, x -> x.reading(3, 29, is));
        }
        says("back: OUTSIDE");
        for (int k : new int[] {-1, LEAST, MOST}) {
            refused(Past.BUSY, "back(" + k + ")", OUTSIDE, x -> x.back(k));
        }
        refused(Past.NEW, "back(1)", OUTSIDE, x -> x.back(1));
        refused(Past.BUSY, "back(3) of 2", OUTSIDE, x -> x.back(3));
        refused(Past.CROWDED, "back(9) of 8", OUTSIDE, x -> x.back(9));
        says("thief: UNKNOWN; STATE");
        for (int day : NO_DAY) {
            refused(Past.BUSY, "thief(" + day + ")", UNKNOWN, x -> x.thief(day));
            refused(Past.NEW, "thief(" + day + ")", UNKNOWN, x -> x.thief(day));
        }
    }

    private static void sheets() {
        says("sheet: UNKNOWN; OUTSIDE: lane, n above 50; SIZE");
        for (int k : NO_SHEET) {
            refusedNamingFaults(Past.BUSY, "sheet(" + k + ", 3, -1)", UNKNOWN, x -> x.sheet(k, 3, -1));
            refusedNamingFaults(Past.BUSY, "sheet(" + k + ", 0, 51)", UNKNOWN, x -> x.sheet(k, 0, 51));
            refusedNamingFaults(Past.BUSY, "sheet(" + k + ", 0, -1)", UNKNOWN, x -> x.sheet(k, 0, -1));
        }
        for (int lane : NO_LANE) {
            refusedNamingFaults(Past.BUSY, "sheet(0, " + lane + ", -1)", OUTSIDE, x -> x.sheet(0, lane, -1));
            refusedNamingFaults(Past.BUSY, "sheet(3, " + lane + ", 5)", OUTSIDE, x -> x.sheet(3, lane, 5));
        }
        for (int n : new int[] {51, MOST}) {
            refusedNamingFaults(Past.BUSY, "sheet(0, 0, " + n + ")", OUTSIDE, x -> x.sheet(0, 0, n));
            refusedNamingFaults(Past.BUSY, "sheet(3, 2, " + n + ")", OUTSIDE, x -> x.sheet(3, 2, n));
        }
        for (int n : new int[] {-1, LEAST}) {
            faulted(Past.BUSY, "sheet(0, 0, " + n + ")", SIZE, x -> x.sheet(0, 0, n));
            faulted(Past.BUSY, "sheet(3, 2, " + n + ")", SIZE, x -> x.sheet(3, 2, n));
        }
        says("lose: UNKNOWN; 0: it had nothing");
        for (int k : NO_SHEET) {
            refused(Past.BUSY, "lose(" + k + ")", UNKNOWN, x -> x.lose(k));
        }
        refused(Past.BUSY, "lose(3)", 0, x -> x.lose(3));
    }

    private static void cells() {
        says("put: UNKNOWN; NULL; INDEX");
        for (int k : NO_SHEET) {
            refusedNamingFaults(Past.BUSY, "put(" + k + ", -1, 7)", UNKNOWN, x -> x.put(k, -1, 7));
        }
        for (int i : new int[] {-1, 0, 3, LEAST, MOST}) {
            faulted(Past.BUSY, "put(3, " + i + ", 7)", NULL, x -> x.put(3, i, 7));
        }
        for (int i : new int[] {-1, 3, 49, 50, LEAST, MOST}) {
            faulted(Past.BUSY, "put(1, " + i + ", 7)", INDEX, x -> x.put(1, i, 7));
        }
        says("cell: LOST: UNKNOWN, OUTSIDE: lane; FAULTS CAST, NULL, INDEX");
        for (int k : NO_SHEET) {
            refusedNamingFaults(Past.BUSY, "cell(" + k + ", -1, 3)", LOST, x -> x.cell(k, -1, 3));
        }
        for (int lane : NO_LANE) {
            refusedNamingFaults(Past.BUSY, "cell(1, -1, " + lane + ")", LOST, x -> x.cell(1, -1, lane));
            refusedNamingFaults(Past.BUSY, "cell(3, -1, " + lane + ")", LOST, x -> x.cell(3, -1, lane));
        }
        for (int lane = 0; lane < 3; lane++) {
            int any = lane;
            leaves(Past.BUSY, "cell(3, -1, " + lane + ")", LOST, 1, x -> x.cell(3, -1, any));
            if (lane != SHORTS) {
                leaves(Past.BUSY, "cell(1, -1, " + lane + ")", LOST, 2, x -> x.cell(1, -1, any));
                leaves(Past.BUSY, "cell(1, 0, " + lane + ")", LOST, 2, x -> x.cell(1, 0, any));
            }
        }
        for (int i : new int[] {-1, 3, 49, 50, LEAST, MOST}) {
            leaves(Past.BUSY, "cell(1, " + i + ", 1)", LOST, 3, x -> x.cell(1, i, SHORTS));
        }
    }

    private static void copies() {
        says("copy: UNKNOWN; FAULTS NULL (the first, the other), CAST, INDEX");
        for (int k : NO_SHEET) {
            refusedNamingFaults(Past.BUSY, "copy(" + k + ", 0, 3, 0, 0)", UNKNOWN, x -> x.copy(k, 0, 3, 0, 0));
            refusedNamingFaults(Past.BUSY, "copy(3, 0, " + k + ", 0, 0)", UNKNOWN, x -> x.copy(3, 0, k, 0, 0));
            refusedNamingFaults(Past.BUSY, "copy(0, -1, " + k + ", 0, 0)", UNKNOWN, x -> x.copy(0, -1, k, 0, 0));
        }
        faulted(Past.BUSY, "copy(3, 0, 1, 9, 1)", NULL, x -> x.copy(3, 0, 1, 9, 1));
        faulted(Past.BUSY, "copy(1, 9, 3, 0, 1)", NULL, x -> x.copy(1, 9, 3, 0, 1));
        faulted(Past.BUSY, "copy(0, 0, 3, 0, -1)", NULL, x -> x.copy(0, 0, 3, 0, -1));
        faulted(Past.BUSY, "copy(3, 0, 3, 0, 0)", NULL, x -> x.copy(3, 0, 3, 0, 0));
        faulted(Past.BUSY, "copy(0, 0, 1, 0, 1)", CAST, x -> x.copy(0, 0, 1, 0, 1));
        faulted(Past.BUSY, "copy(1, 0, 2, 0, 0)", CAST, x -> x.copy(1, 0, 2, 0, 0));
        faulted(Past.BUSY, "copy(2, -1, 0, 99, -1)", CAST, x -> x.copy(2, -1, 0, 99, -1));
        int[][] beyond = {{-1, 0, 1}, {0, -1, 1}, {0, 0, -1}, {4, 0, 0}, {0, 4, 0}, {-1, 0, 0}, {0, -1, 0}, {3, 0, 1},
            {0, 3, 1}, {1, 0, 3}, {0, 1, 3}, {0, 0, 4}, {LEAST, 0, 1}, {0, LEAST, 1}, {0, 0, LEAST}, {MOST, 0, 1},
            {0, MOST, 1}, {0, 0, MOST}, {MOST, 0, MOST}, {0, MOST, MOST}, {1, 1, MOST}, {2, 2, MOST}};
        for (int[] b : beyond) {
            faulted(Past.BUSY, "copy(1, " + b[0] + ", 1, " + b[1] + ", " + b[2] + ")", INDEX,
                x -> x.copy(1, b[0], 1, b[1], b[2]));
        }
    }

    private static void parts() {
        says("tell, shake: UNKNOWN");
        for (int t : NO_TREE) {
            refused(Past.BUSY, "tell(" + t + ")", UNKNOWN, x -> x.tell(t));
            refused(Past.BUSY, "shake(" + t + ")", UNKNOWN, x -> x.shake(t));
        }
        says("as: UNKNOWN; OUTSIDE; CAST");
        for (int t : NO_TREE) {
            refusedNamingFaults(Past.BUSY, "as(" + t + ", 3)", UNKNOWN, x -> x.as(t, 3));
            refusedNamingFaults(Past.BUSY, "as(" + t + ", 0)", UNKNOWN, x -> x.as(t, 0));
        }
        for (int kind : new int[] {-1, 3, LEAST, MOST}) {
            refusedNamingFaults(Past.BUSY, "as(0, " + kind + ")", OUTSIDE, x -> x.as(0, kind));
            refusedNamingFaults(Past.BUSY, "as(2, " + kind + ")", OUTSIDE, x -> x.as(2, kind));
        }
        faulted(Past.BUSY, "as(0, 1)", CAST, x -> x.as(0, 1));
        faulted(Past.BUSY, "as(0, 2)", CAST, x -> x.as(0, 2));
        faulted(Past.BUSY, "as(1, 2)", CAST, x -> x.as(1, 2));
    }

    private static void unknownWithoutAnOrchard() {
        says("No ORCHARD (no TREES, PRISONERS): UNKNOWN");
        refused(Past.NEW, "ofTree(0, 0)", UNKNOWN, x -> x.ofTree(0, 0));
        refused(Past.NEW, "ofTree(0, 9)", UNKNOWN, x -> x.ofTree(0, 9));
        refused(Past.NEW, "ofPrisoner(0, 0)", UNKNOWN, x -> x.ofPrisoner(0, 0));
        refused(Past.NEW, "ofPrisoner(0, 9)", UNKNOWN, x -> x.ofPrisoner(0, 9));
        refused(Past.NEW, "water(0, 0)", UNKNOWN, x -> x.water(0, 0));
        refused(Past.NEW, "water(0, -1)", UNKNOWN, x -> x.water(0, -1));
        refused(Past.NEW, "crow(0, 0)", UNKNOWN, x -> x.crow(0, 0));
        refused(Past.NEW, "fell(0, true)", UNKNOWN, x -> x.fell(0, true));
        refused(Past.NEW, "fell(0, false)", UNKNOWN, x -> x.fell(0, false));
        refused(Past.NEW, "out(0)", UNKNOWN, x -> x.out(0));
        refused(Past.NEW, "by(0)", UNKNOWN, x -> x.by(0));
        refused(Past.NEW, "has(0, 0)", UNKNOWN, x -> x.has(0, 0));
        refused(Past.NEW, "least(0, 0, -1)", UNKNOWN, x -> x.least(0, 0, -1));
        refused(Past.NEW, "saws(0, 0)", UNKNOWN, x -> x.saws(0, 0));
        refused(Past.NEW, "worth(0)", UNKNOWN, x -> x.worth(0));
        refused(Past.NEW, "odds(0, 0, 0)", LOST, x -> x.odds(0, 0, 0));
        refused(Past.NEW, "reading(0, 0, true)", UNKNOWN, x -> x.reading(0, 0, true));
        refused(Past.NEW, "tell(0)", UNKNOWN, x -> x.tell(0));
        refused(Past.NEW, "shake(0)", UNKNOWN, x -> x.shake(0));
        refusedNamingFaults(Past.NEW, "as(0, 0)", UNKNOWN, x -> x.as(0, 0));
    }

    private static void stateWithoutAnOrchard() {
        says("STATE: there is no ORCHARD");
        for (int day : new int[] {0, 29}) {
            refused(Past.NEW, "rain(" + day + ", 0)", STATE, x -> x.rain(day, 0));
            refused(Past.NEW, "rain(" + day + ", 9)", STATE, x -> x.rain(day, 9));
            refused(Past.NEW, "water(" + day + ", NONE)", STATE, x -> x.water(day, NONE));
            refused(Past.NEW, "frost(" + day + ", true)", STATE, x -> x.frost(day, true));
            refused(Past.NEW, "frost(" + day + ", false)", STATE, x -> x.frost(day, false));
            refused(Past.NEW, "free(" + day + ")", STATE, x -> x.free(day));
            refused(Past.NEW, "most(" + day + ", 0, -1)", STATE, x -> x.most(day, 0, -1));
            refused(Past.NEW, "most(" + day + ", 4, 4)", STATE, x -> x.most(day, 4, 4));
            refused(Past.NEW, "thief(" + day + ")", STATE, x -> x.thief(day));
        }
        for (int lock : new int[] {0, 5}) {
            refused(Past.NEW, "green(" + lock + ", -1)", STATE, x -> x.green(lock, -1));
            refused(Past.NEW, "green(" + lock + ", 0)", STATE, x -> x.green(lock, 0));
        }
        says("without an ORCHARD there are 0 to be gone");
        refused(Past.NEW, "shoo(0)", 0, x -> x.shoo(0));
        refused(Past.NEW, "back(0)", 0, x -> x.back(0));
        for (int what = 0; what < 4; what++) {
            int any = what;
            refused(Past.NEW, "many(" + what + ")", 0, x -> x.many(any));
        }
    }

    private static void askingChangesNothing() {
        says("what is only asked changes nothing");
        refused(Past.BUSY, "out(0)", after(Past.BUSY).out(0), x -> x.out(0));
        refused(Past.BUSY, "by(1)", after(Past.BUSY).by(1), x -> x.by(1));
        refused(Past.BUSY, "free(9)", after(Past.BUSY).free(9), x -> x.free(9));
        refused(Past.BUSY, "has(2, 4)", after(Past.BUSY).has(2, 4), x -> x.has(2, 4));
        refused(Past.BUSY, "least(1, 3, 0)", after(Past.BUSY).least(1, 3, 0), x -> x.least(1, 3, 0));
        refused(Past.BUSY, "most(9, 3, 2)", after(Past.BUSY).most(9, 3, 2), x -> x.most(9, 3, 2));
        refused(Past.BUSY, "saws(0, 29)", after(Past.BUSY).saws(0, 29), x -> x.saws(0, 29));
        refused(Past.BUSY, "worth(1)", after(Past.BUSY).worth(1), x -> x.worth(1));
        refused(Past.BUSY, "odds(0, 8, 0)", after(Past.BUSY).odds(0, 8, 0), x -> x.odds(0, 8, 0));
        refused(Past.BUSY, "green(2, -1)", after(Past.BUSY).green(2, -1), x -> x.green(2, -1));
        refused(Past.CROWDED, "thief(4)", after(Past.CROWDED).thief(4), x -> x.thief(4));
        refused(Past.BUSY, "fault()", BEFORE, x -> x.fault());
        refused(Past.BUSY, "shoo(0)", 2, x -> x.shoo(0));
        refused(Past.CROWDED, "back(0)", 8, x -> x.back(0));
        says("0: it was so");
        refused(Past.BUSY, "frost(8, true)", 0, x -> x.frost(8, true));
        refused(Past.BUSY, "frost(9, false)", 0, x -> x.frost(9, false));
        refused(Past.BUSY, "fell(3, true)", 0, x -> x.fell(3, true));
        refused(Past.BUSY, "fell(0, false)", 0, x -> x.fell(0, false));
        says("copy of no cells");
        refusedNamingFaults(Past.BUSY, "copy(1, 3, 1, 0, 0)", 0, x -> x.copy(1, 3, 1, 0, 0));
        refusedNamingFaults(Past.BUSY, "copy(1, 0, 1, 3, 0)", 0, x -> x.copy(1, 0, 1, 3, 0));
    }
}
