/** SHEETS, TELLING, SHAKEN, FAULTS ("Terms" 5, promises 24 to 34) at their bounds. */
public final class SheetsBoundaryTest extends Checks {
    private static final int[] LEAST_OF = {-128, -32768, LEAST};
    private static final int[] MOST_OF = {127, 32767, MOST};

    private SheetsBoundaryTest() {
    }

    public static void main(String[] args) {
        nothingAtFirst();
        lengths();
        zeroAtFirst();
        aRefusedRowLeavesTheOldOne();
        cutToBytes();
        cutToShorts();
        cutToInts();
        lanesOfCells();
        lost();
        copiesAsTheyWere();
        copiesWithinARow();
        copiesOfLanes();
        copiesOfNone();
        copiesUpToTheEnd();
        copiesRefused();
        faultsAreNumbered();
        faultIsTheLatest();
        faultStaysByOthers();
        tells();
        traceWraps();
        shaken();
        traceStays();
        kinds();
        howMany();
        end("the bounds of sheets and parts are as told");
    }

    private static void nothingAtFirst() {
        says("SHEETS 0 .. 3 have nothing (at first)");
        KeyOrchard x = new KeyOrchard();
        for (int k = 0; k < 4; k++) {
            due(x.lose(k), 0, "lose");
            due(x.put(k, 0, 1), NULL, "put");
            due(x.fault(), 1, "fault");
            for (int lane = 0; lane < 3; lane++) {
                due(x.cell(k, 0, lane), LOST, "cell");
                due(x.fault(), 1, "nothing is no CAST");
                due(x.orchard(k, lane, 0, 0), NULL, "orchard");
            }
            due(x.copy(k, 0, k, 0, 0), NULL, "copy");
        }
        due(x.lose(4), UNKNOWN, "no SHEET");
        due(x.lose(-1), UNKNOWN, "no SHEET");
        due(x.sheet(4, 0, 1), UNKNOWN, "no SHEET");
        due(x.sheet(-1, 0, 1), UNKNOWN, "no SHEET");
    }

    private static void lengths() {
        says("a row of 0 .. 50 numbers");
        for (int lane = 0; lane < 3; lane++) {
            for (int n : new int[] {0, 1, 49, 50}) {
                KeyOrchard x = new KeyOrchard();
                due(x.sheet(2, lane, n), 1, "sheet of " + n);
                due(x.put(2, n, 1), INDEX, "put behind the last");
                due(x.cell(2, n, lane), LOST, "cell behind the last");
                due(x.fault(), 3, "fault");
                due(x.put(2, -1, 1), INDEX, "put ahead of the first");
                due(x.cell(2, -1, lane), LOST, "cell ahead of the first");
                due(x.put(2, n - 1, 1), n == 0 ? INDEX : 1, "put into the last");
                due(x.cell(2, n - 1, lane), n == 0 ? LOST : 1, "cell, the last");
                due(x.lose(2), 1, "a row of " + n + " is not nothing");
            }
            KeyOrchard x = new KeyOrchard();
            due(x.sheet(2, lane, 51), OUTSIDE, "51");
            due(x.sheet(2, lane, -1), SIZE, "-1");
            due(x.lose(2), 0, "there is nothing yet");
        }
        KeyOrchard x = new KeyOrchard();
        due(x.sheet(2, -1, 1), OUTSIDE, "LANE -1");
        due(x.sheet(2, 3, 1), OUTSIDE, "LANE 3");
    }

    private static void zeroAtFirst() {
        says("a new row: 0 at first");
        KeyOrchard x = new KeyOrchard();
        for (int lane = 0; lane < 3; lane++) {
            due(x.sheet(0, lane, 50), 1, "sheet");
            for (int i = 0; i < 50; i++) {
                due(x.cell(0, i, lane), 0, "cell " + i);
                x.put(0, i, 7);
            }
        }
        due(x.sheet(0, INTS, 3), 1, "a shorter one");
        due(x.cell(0, 2, INTS), 0, "cell");
        due(x.cell(0, 3, INTS), LOST, "no cell");
        due(x.lose(0), 1, "lose");
        due(x.sheet(0, INTS, 4), 1, "another");
        due(x.cell(0, 3, INTS), 0, "cell");
    }

    private static void aRefusedRowLeavesTheOldOne() {
        says("sheet: UNKNOWN; OUTSIDE; SIZE change nothing");
        KeyOrchard x = new KeyOrchard();
        x.sheet(1, SHORTS, 2);
        x.put(1, 1, 1234);
        due(x.sheet(1, INTS, 51), OUTSIDE, "sheet");
        due(x.sheet(1, 3, 2), OUTSIDE, "sheet");
        due(x.sheet(1, INTS, -1), SIZE, "sheet");
        due(x.sheet(1, INTS, LEAST), SIZE, "sheet");
        due(x.sheet(1, INTS, MOST), OUTSIDE, "sheet");
        due(x.cell(1, 1, SHORTS), 1234, "cell");
        due(x.cell(1, 2, SHORTS), LOST, "no cell more");
    }

    private static void cut(int lane, int v, int left) {
        KeyOrchard x = new KeyOrchard();
        x.sheet(0, lane, 1);
        due(x.put(0, 0, v), 1, "put of " + v);
        due(x.cell(0, 0, lane), left, "cell with " + v);
    }

    private static void cutToBytes() {
        says("cut to its LANE (with its sign): bytes");
        int[][] all = {{0, 0}, {127, 127}, {128, -128}, {-128, -128}, {-129, 127}, {255, -1}, {256, 0}, {-1, -1},
            {-255, 1}, {-256, 0}, {32768, 0}, {0x1234567F, 127}, {0x12345680, -128}, {LEAST, 0}, {MOST, -1}};
        for (int[] a : all) {
            cut(BYTES, a[0], a[1]);
        }
    }

    private static void cutToShorts() {
        says("cut to its LANE (with its sign): shorts");
        int[][] all = {{0, 0}, {128, 128}, {32767, 32767}, {32768, -32768}, {-32768, -32768}, {-32769, 32767},
            {65535, -1}, {65536, 0}, {-65536, 0}, {0x12347FFF, 32767}, {0x12348000, -32768}, {LEAST, 0}, {MOST, -1}};
        for (int[] a : all) {
            cut(SHORTS, a[0], a[1]);
        }
    }

    private static void cutToInts() {
        says("cut to its LANE (with its sign): ints");
        for (int v : new int[] {0, -1, 128, 32768, 65536, LEAST, MOST, LEAST + 1, MOST - 1}) {
            cut(INTS, v, v);
        }
    }

    private static void lanesOfCells() {
        says("cell: taken as a row of a LANE");
        for (int own = 0; own < 3; own++) {
            KeyOrchard x = new KeyOrchard();
            x.sheet(0, own, 2);
            x.put(0, 1, MOST_OF[own]);
            for (int lane = 0; lane < 3; lane++) {
                due(x.cell(0, 1, lane), lane == own ? MOST_OF[own] : LOST, "cell of " + own + " as " + lane);
                due(x.fault(), lane == own ? 0 : 2, "fault");
                due(x.cell(0, 2, lane), LOST, "no cell of " + own + " as " + lane);
                due(x.fault(), lane == own ? 3 : 2, "fault");
            }
            x.put(0, 0, LEAST_OF[own]);
            due(x.cell(0, 0, own), LEAST_OF[own], "cell");
        }
    }

    private static void lost() {
        says("lose: 1; 0: it had nothing");
        KeyOrchard x = new KeyOrchard();
        x.sheet(3, BYTES, 2);
        x.sheet(2, BYTES, 2);
        due(x.lose(3), 1, "lose");
        due(x.lose(3), 0, "lose again");
        due(x.put(3, 0, 1), NULL, "put");
        due(x.cell(3, 0, INTS), LOST, "cell");
        due(x.fault(), 1, "nothing is of no LANE");
        due(x.copy(2, 0, 3, 0, 1), NULL, "copy");
        due(x.lose(2), 1, "another one");
    }

    private static void copiesAsTheyWere() {
        says("copy: n cells of a SHEET from i on go to another one from j on");
        for (int lane = 0; lane < 3; lane++) {
            KeyOrchard x = new KeyOrchard();
            x.sheet(0, lane, 4);
            x.sheet(3, lane, 3);
            x.put(0, 1, LEAST_OF[lane]);
            x.put(0, 2, MOST_OF[lane]);
            x.put(3, 0, 5);
            due(x.copy(0, 1, 3, 1, 2), 2, "copy");
            due(x.fault(), 0, "fault");
            due(x.cell(3, 0, lane), 5, "ahead of them");
            due(x.cell(3, 1, lane), LEAST_OF[lane], "the first");
            due(x.cell(3, 2, lane), MOST_OF[lane], "the second");
            due(x.cell(0, 1, lane), LEAST_OF[lane], "where it came from");
            x.put(0, 1, 9);
            due(x.cell(3, 1, lane), LEAST_OF[lane], "the rows are two");
        }
    }

    private static void copiesWithinARow() {
        says("copy: perhaps the same; as they were");
        int[][] moves = {{0, 1, 4}, {1, 0, 4}, {0, 2, 3}, {2, 0, 3}, {0, 0, 5}, {3, 0, 2}, {0, 4, 1}};
        for (int[] m : moves) {
            KeyOrchard x = new KeyOrchard();
            x.sheet(1, BYTES, 5);
            int[] row = {10, 11, 12, 13, 14};
            for (int i = 0; i < 5; i++) {
                x.put(1, i, row[i]);
            }
            int[] want = row.clone();
            for (int c = 0; c < m[2]; c++) {
                want[m[1] + c] = row[m[0] + c];
            }
            due(x.copy(1, m[0], 1, m[1], m[2]), m[2], "copy");
            for (int i = 0; i < 5; i++) {
                due(x.cell(1, i, BYTES), want[i], "cell " + i + " by " + m[0] + ", " + m[1] + ", " + m[2]);
            }
        }
    }

    private static void copiesOfLanes() {
        says("copy: CAST (unlike LANES)");
        for (int from = 0; from < 3; from++) {
            for (int to = 0; to < 3; to++) {
                KeyOrchard x = new KeyOrchard();
                x.sheet(0, from, 2);
                x.sheet(1, to, 2);
                x.put(0, 0, 7);
                due(x.copy(0, 0, 1, 0, 1), from == to ? 1 : CAST, "copy of " + from + " to " + to);
                due(x.fault(), from == to ? 0 : 2, "fault");
                due(x.cell(1, 0, to), from == to ? 7 : 0, "cell");
                due(x.copy(0, 3, 1, 3, -1), from == to ? INDEX : CAST, "copy of none");
                due(x.copy(0, 0, 1, 0, 0), from == to ? 0 : CAST, "copy of none");
            }
        }
    }

    private static void copiesOfNone() {
        says("copy: INDEX also where i is not 0 .. how many there are, if no cell is taken, too");
        KeyOrchard x = new KeyOrchard();
        x.sheet(0, INTS, 2);
        x.sheet(1, INTS, 3);
        x.sheet(2, INTS, 0);
        due(x.copy(0, 2, 1, 3, 0), 0, "from the end to the end");
        due(x.copy(0, 0, 1, 0, 0), 0, "from the start to the start");
        due(x.fault(), 0, "fault");
        due(x.copy(0, 3, 1, 0, 0), INDEX, "from behind the end");
        due(x.copy(0, 0, 1, 4, 0), INDEX, "to behind the end");
        due(x.copy(0, -1, 1, 0, 0), INDEX, "from ahead");
        due(x.copy(0, 0, 1, -1, 0), INDEX, "to ahead");
        due(x.fault(), 3, "fault");
        due(x.copy(2, 0, 1, 3, 0), 0, "from an empty row");
        due(x.copy(1, 3, 2, 0, 0), 0, "to an empty row");
        due(x.copy(2, 0, 2, 0, 0), 0, "an empty row to itself");
        due(x.copy(2, 0, 1, 0, 1), INDEX, "from an empty row");
        due(x.copy(1, 0, 2, 0, 1), INDEX, "to an empty row");
        due(x.copy(2, 1, 1, 0, 0), INDEX, "from behind an empty row");
    }

    private static void copiesUpToTheEnd() {
        says("copy: INDEX: i, j, n below 0 or beyond");
        KeyOrchard x = new KeyOrchard();
        x.sheet(0, SHORTS, 50);
        x.sheet(1, SHORTS, 50);
        x.put(0, 49, 9);
        due(x.copy(0, 0, 1, 0, 50), 50, "all of them");
        due(x.cell(1, 49, SHORTS), 9, "the last");
        due(x.copy(0, 49, 1, 0, 1), 1, "the last");
        due(x.copy(0, 0, 1, 49, 1), 1, "to the last");
        due(x.cell(1, 0, SHORTS), 9, "the first");
        due(x.cell(1, 49, SHORTS), 0, "the last");
        due(x.copy(0, 0, 1, 0, 51), INDEX, "one more than there are");
        due(x.copy(0, 49, 1, 0, 2), INDEX, "i and n beyond");
        due(x.copy(0, 0, 1, 49, 2), INDEX, "j and n beyond");
        due(x.copy(0, 1, 1, 0, MOST), INDEX, "a sum that wraps around");
        due(x.copy(0, 0, 1, 1, MOST), INDEX, "a sum that wraps around");
        due(x.copy(0, MOST, 1, MOST, 1), INDEX, "a sum that wraps around");
        due(x.copy(0, 0, 1, 0, -1), INDEX, "n below 0 is no SIZE");
        due(x.copy(0, 0, 1, 0, LEAST), INDEX, "n below 0 is no SIZE");
    }

    private static void copiesRefused() {
        says("copy: a FAULT changes nothing");
        KeyOrchard x = new KeyOrchard();
        x.sheet(0, BYTES, 3);
        x.sheet(1, BYTES, 2);
        for (int i = 0; i < 3; i++) {
            x.put(0, i, 7);
        }
        due(x.copy(0, 0, 1, 0, 3), INDEX, "one too many");
        due(x.copy(0, 0, 1, 1, 2), INDEX, "one too far");
        due(x.cell(1, 0, BYTES), 0, "not even the first goes");
        due(x.cell(1, 1, BYTES), 0, "not even the second goes");
    }

    private static int cause(KeyOrchard x, int fault) {
        switch (fault) {
            case 1:
                return x.put(0, 0, 0);
            case 2:
                return x.orchard(1, INTS, 0, 0);
            case 3:
                return x.put(1, 3, 0);
            default:
                return x.sheet(1, SHORTS, -1);
        }
    }

    private static KeyOrchard withSheetOne() {
        KeyOrchard x = orchardOf("kt03g14o25;029");
        x.lose(0);
        x.sheet(1, SHORTS, 3);
        return x;
    }

    private static void faultsAreNumbered() {
        says("1 NULL, 2 CAST, 3 INDEX, 4 SIZE; it answers -10 less it");
        due(new KeyOrchard().fault(), 0, "0 ahead of any");
        KeyOrchard x = withSheetOne();
        for (int f = 1; f <= 4; f++) {
            due(cause(x, f), -10 - f, "the call");
            due(x.fault(), f, "fault");
            due(x.fault(), f, "fault, asked again");
        }
    }

    private static void faultIsTheLatest() {
        says("the FAULT of the latest call that names one: 0: it came to none, or was refused");
        KeyOrchard x = withSheetOne();
        for (int f = 1; f <= 4; f++) {
            long[] answers = new long[14];
            int[] behind = new int[14];
            for (int c = 0; c < 14; c++) {
                cause(x, f);
                answers[c] = naming(x, c);
                behind[c] = x.fault();
            }
            long[] due = {UNKNOWN, OUTSIDE, -100, UNKNOWN, OUTSIDE, 1, UNKNOWN, 1, LOST, LOST, 0, UNKNOWN, 0, UNKNOWN};
            for (int c = 0; c < 14; c++) {
                due(answers[c], due[c], "call " + c + " behind FAULT " + f);
                due(behind[c], 0, "fault() behind call " + c + " behind FAULT " + f);
            }
            cause(x, f);
            due(x.as(2, 2), 1, "as");
            due(x.fault(), 0, "fault");
            cause(x, f);
            due(x.as(2, 3), OUTSIDE, "as");
            due(x.fault(), 0, "fault");
        }
    }

    /** Calls that name FAULTS and come to none of them. */
    private static long naming(KeyOrchard x, int which) {
        switch (which) {
            case 0:
                return x.orchard(4, BYTES, 0, 0);
            case 1:
                return x.orchard(1, 3, 0, 0);
            case 2:
                return x.orchard(1, SHORTS, 0, 3);
            case 3:
                return x.sheet(-1, BYTES, 0);
            case 4:
                return x.sheet(0, BYTES, 51);
            case 5:
                return x.sheet(1, SHORTS, 3);
            case 6:
                return x.put(4, 0, 0);
            case 7:
                return x.put(1, 2, 0);
            case 8:
                return x.cell(4, 0, SHORTS);
            case 9:
                return x.cell(1, 0, 3);
            case 10:
                return x.cell(1, 0, SHORTS);
            case 11:
                return x.copy(1, 0, 4, 0, 0);
            case 12:
                return x.copy(1, 0, 1, 0, 0);
            default:
                return x.as(3, 0);
        }
    }

    private static void faultStaysByOthers() {
        says("calls that name no FAULTS leave fault() as it is");
        KeyOrchard x = withSheetOne();
        for (int f = 1; f <= 4; f++) {
            cause(x, f);
            long[] answers = {x.ofTree(9, 0), x.ofPrisoner(9, 0), x.rain(30, 0), x.water(30, 0), x.frost(30, true),
                x.crow(30, 0), x.shoo(9), x.fell(9, true), x.out(9), x.by(9), x.free(30), x.has(9, 0),
                x.least(9, 0, 0), x.most(30, 0, 0), x.saws(9, 0), x.worth(9), x.odds(9, 0, 0), x.green(9, 0),
                x.reading(9, 0, true), x.back(9), x.thief(30), x.lose(9), x.tell(9), x.shake(9), x.many(9)};
            for (long a : answers) {
                due(a < 0 ? 1 : 0, 1, "a refusal");
            }
            due(x.fault(), f, "fault() behind refusals");
            long[] others = {x.ofTree(0, 0), x.ofPrisoner(0, 0), x.rain(0, 0), x.water(0, NONE), x.frost(0, false),
                x.crow(0, 0), x.shoo(1), x.fell(0, false), x.out(0), x.by(0), x.free(0), x.has(0, 0),
                x.least(0, 0, 0), x.most(0, 0, 0), x.saws(0, 0), x.worth(0), x.odds(0, 0, 0), x.green(0, 0),
                x.reading(0, 0, true), x.back(1), x.thief(0), x.lose(0), x.tell(0), x.shake(0), x.many(0), x.trace()};
            due(others.length, 26, "calls");
            due(x.fault(), f, "fault() behind calls that were taken");
        }
    }

    private static void tells() {
        says("TREE (1): NEEDS. GRAFTED (2): what TREE's gives, and 100. OLD (3): GRAFTED's, and TREE's");
        for (int needs = 1; needs <= 9; needs += 8) {
            KeyOrchard x = orchardOf("kt0" + needs + "g1" + needs + "o2" + needs + ";029");
            due(x.tell(0), needs, "a TREE");
            due(x.trace(), 1, "1");
            due(x.tell(1), needs + 100, "a GRAFTED one");
            due(x.trace(), 1 * 961 + 2 * 31 + 1, "2, 1");
            due(x.tell(2), 2 * needs + 100, "an OLD one");
            due(x.trace(), 1024 * 923521 + 3 * 29791 + 2 * 961 + 31 + 1, "3, 2, 1, 1");
        }
    }

    private static void traceWraps() {
        says("TRACE (an int that wraps, 0 at first, becomes 31 times it and the number)");
        KeyOrchard x = orchardOf("kt01;029");
        int[] all = {1, 32, 993, 30784, 954305, 29583456, 917087137, -1635069824};
        due(x.trace(), 0, "0 at first");
        for (int trace : all) {
            due(x.tell(0), 1, "tell");
            due(x.trace(), trace, "trace");
            due(x.trace(), trace, "trace, asked again");
        }
        long trace = all[all.length - 1];
        for (int i = 0; i < 100; i++) {
            x.shake(0);
            trace = (int) (31 * trace + 4);
            due(x.trace(), trace, "trace");
        }
    }

    private static void shaken() {
        says("SHAKEN by a lent body (4): the own number of the one that is told; OLD ones have their own (5): 60");
        KeyOrchard x = orchardOf("kt01g12o23t34g45o59;029");
        int trace = 0;
        for (int t = 0; t < 6; t++) {
            boolean isOld = t % 3 == 2;
            due(x.shake(t), isOld ? 60 : t, "shake");
            trace = 31 * trace + (isOld ? 5 : 4);
            due(x.trace(), trace, "trace");
        }
        due(x.fell(4, true), 1, "fell");
        due(x.shake(4), 4, "one FELLED");
        due(x.tell(4), 105, "one FELLED");
    }

    private static void traceStays() {
        says("bodies leave their number as they begin; no other call does");
        KeyOrchard x = orchardOf("ko25t01;029");
        x.tell(0);
        int trace = x.trace();
        due(x.tell(2), UNKNOWN, "tell");
        due(x.shake(-1), UNKNOWN, "shake");
        due(x.as(0, 2), 1, "as");
        due(x.as(1, 2), CAST, "as");
        due(x.ofTree(0, 2), 5, "ofTree");
        due(x.out(0), 29, "out");
        due(x.worth(0), 10000, "worth");
        due(x.saws(0, 29), 0, "saws");
        due(x.trace(), trace, "trace");
    }

    private static void kinds() {
        says("as: CAST: it is none (each is a TREE, too; an OLD one is GRAFTED)");
        KeyOrchard x = orchardOf("kt01g12o23t34g45o59;029");
        for (int t = 0; t < 6; t++) {
            for (int kind = 0; kind < 3; kind++) {
                boolean isOne = kind <= t % 3;
                due(x.as(t, kind), isOne ? 1 : CAST, "as " + kind + " of " + t);
                due(x.fault(), isOne ? 0 : 2, "fault");
            }
            due(x.as(t, -1), OUTSIDE, "as -1");
            due(x.as(t, 3), OUTSIDE, "as 3");
            due(x.fault(), 0, "fault");
        }
    }

    private static void howMany() {
        says("how many: 0 TREES, 1 PRISONERS, 2 CROWS, 3 READINGS (0 all without an ORCHARD)");
        KeyOrchard x = new KeyOrchard();
        for (int what = 0; what < 4; what++) {
            due(x.many(what), 0, "without an ORCHARD");
        }
        due(plant(x, "kt01"), -104, "a TEXT that is none");
        due(x.many(0), 0, "without an ORCHARD still");
        due(plant(x, "kt01t01t01;029;029"), 3, "orchard");
        x.crow(0, 0);
        for (int r = 0; r < 5; r++) {
            x.reading(0, 0, true);
        }
        int[] all = {3, 2, 1, 5};
        for (int what = 0; what < 4; what++) {
            due(x.many(what), all[what], "many " + what);
        }
        due(x.many(-1), OUTSIDE, "many");
        due(x.many(4), OUTSIDE, "many");
    }
}
