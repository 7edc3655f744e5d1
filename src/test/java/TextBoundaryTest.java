/** AN ORCHARD by a TEXT ("Terms" 1, promises 2 to 4): its bounds, its FIRST FAULT, what it makes anew. */
public final class TextBoundaryTest extends Checks {
    private static final String LONGEST = "kt01g12o23t34g45o59;000;129;205;310;419;520";
    private static final int ONE_TREE = 4, SIX_TREES = 19;

    private TextBoundaryTest() {
    }

    public static void main(String[] args) {
        theLetterAhead();
        kindsOfTrees();
        locksOfTrees();
        needsOfTrees();
        oneToSixTrees();
        oneToSixPrisoners();
        locksOfPrisoners();
        terms();
        endsTooSoon();
        firstOfSeveralFaults();
        codesBehindTheLast();
        cellsOfARow();
        codesOfLanes();
        opens();
        wants();
        allAnew();
        numbersAnew();
        whatStays();
        smallerAndLargerOrchards();
        apartFromItsSheet();
        end("the TEXT's bounds are as told");
    }

    /** The answer to the TEXT with one code in place of its own, from a row of ints. */
    private static int withCode(String text, int place, int code) {
        KeyOrchard x = new KeyOrchard();
        write(x, 2, INTS, text);
        x.put(2, place, code);
        return x.orchard(2, INTS, 0, text.length());
    }

    private static void refusedCodes(String text, int place, int... codes) {
        for (int code : codes) {
            due(withCode(text, place, code), -100 - place, text + " with " + code + " at " + place);
        }
    }

    private static void theLetterAhead() {
        says("a TEXT: k");
        due(withCode("kt01;000", 0, 107), 1, "k");
        refusedCodes("kt01;000", 0, 106, 108, 75, 116, 59, 48, 0, -1, NONE, -107, 107 + 256, 107 - 256, 107 + 65536,
            LEAST, MOST, LEAST + 107);
    }

    private static void kindsOfTrees() {
        says("a letter: 0 TREE (t 116), 1 GRAFTED (g 103), 2 OLD (o 111)");
        int[] codes = {116, 103, 111};
        for (int kind = 0; kind < 3; kind++) {
            KeyOrchard x = orchardOf("k" + (char) codes[kind] + "01;000");
            due(x.ofTree(0, 0), kind, "kind of " + codes[kind]);
        }
        refusedCodes("kt01;000", 1, 115, 117, 102, 104, 110, 112, 84, 71, 79, 107, 59, 48, 0, -1, NONE, 116 + 256,
            LEAST, MOST);
        refusedCodes("kt01t01;000", 4, 115, 117, 102, 104, 110, 112, 84, 71, 79, 107, 48, 0, -1, NONE, 116 - 256,
            LEAST, MOST);
    }

    private static void locksOfTrees() {
        says("a digit 0 .. 5 (LOCK)");
        for (int lock = 0; lock < 6; lock++) {
            due(orchardOf("kt" + lock + "1;000").ofTree(0, 1), lock, "LOCK");
        }
        refusedCodes("kt01;000", 2, 47, 54, 57, 58, 0, 5, -1, NONE, 48 + 256, LEAST, LEAST + 48, MOST);
        refusedCodes("kt01g01;000", 5, 47, 54);
    }

    private static void needsOfTrees() {
        says("a digit 1 .. 9 (NEEDS)");
        for (int needs = 1; needs <= 9; needs++) {
            due(orchardOf("kt0" + needs + ";000").ofTree(0, 2), needs, "NEEDS");
        }
        refusedCodes("kt01;000", 3, 48, 58, 47, 1, 9, 0, -1, NONE, 49 + 256, LEAST, LEAST + 49, MOST);
        refusedCodes("kt01o01;000", 6, 48, 58);
    }

    private static void oneToSixTrees() {
        says("1 to 6 TREES");
        StringBuilder trees = new StringBuilder("k");
        refusedCodes("k;000", 1, 59);
        for (int count = 1; count <= 6; count++) {
            trees.append("t01");
            KeyOrchard x = new KeyOrchard();
            due(plant(x, trees + ";000"), count, trees.toString());
            due(x.many(0), count, "many");
            due(x.ofTree(count - 1, 1), 0, "the last TREE");
            due(x.ofTree(count, 1), UNKNOWN, "no TREE more");
        }
        says("the letter of a seventh TREE");
        refusedCodes(trees + "t01;000", SIX_TREES, 't', 'g', 'o');
        due(plant(new KeyOrchard(), trees + "t"), -100 - SIX_TREES, "the letter alone");
    }

    private static void oneToSixPrisoners() {
        says("1 to 6 PRISONERS");
        StringBuilder text = new StringBuilder("kt01");
        for (int count = 1; count <= 6; count++) {
            text.append(";029");
            KeyOrchard x = new KeyOrchard();
            due(plant(x, text.toString()), 1, text.toString());
            due(x.many(1), count, "many");
            due(x.ofPrisoner(count - 1, 1), 29, "the last PRISONER");
            due(x.ofPrisoner(count, 1), UNKNOWN, "no PRISONER more");
        }
        says("the ; of a seventh PRISONER");
        refusedCodes(text + ";029", ONE_TREE + 24, ';');
        due(plant(new KeyOrchard(), text + ";"), -100 - ONE_TREE - 24, "the ; alone");
        due(plant(new KeyOrchard(), LONGEST + ";"), -100 - SIX_TREES - 24, "behind the longest TEXT");
        says("each: ; (59)");
        refusedCodes("kt01;000", 4, 58, 60, 44, 0, -1, NONE, 59 + 256, LEAST, MOST);
        refusedCodes("kt01;000;000", 8, 58, 60, 't', 'g', 'o');
    }

    private static void locksOfPrisoners() {
        says("a PRISONER's digit 0 .. 5 (LOCK)");
        for (int lock = 0; lock < 6; lock++) {
            due(orchardOf("kt01;" + lock + "00").ofPrisoner(0, 0), lock, "LOCK");
        }
        refusedCodes("kt01;000", 5, 47, 54, 57, 0, -1, NONE, 48 - 256, LEAST, LEAST + 48, MOST);
        refusedCodes("kt01;000;000", 9, 47, 54);
    }

    private static void terms() {
        says("a digit 0 .. 2 and a digit 0 .. 9 (TERM, a DAY)");
        for (int term = 0; term < 30; term++) {
            KeyOrchard x = orchardOf("kt01;0" + term / 10 + term % 10);
            due(x.ofPrisoner(0, 1), term, "TERM");
            due(x.out(0), term, "out by the TERM");
        }
        refusedCodes("kt01;000", 6, 47, 51, 57, 0, -1, NONE, 48 + 65536, LEAST, LEAST + 48, MOST);
        refusedCodes("kt01;000", 7, 47, 58, 0, -1, NONE, 57 + 256, LEAST, LEAST + 48, MOST);
        due(plant(new KeyOrchard(), "kt01;030"), -106, "TERM 30");
    }

    private static void endsTooSoon() {
        says("how many codes there are, if it just ends too soon");
        for (int n = 0; n < LONGEST.length(); n++) {
            boolean isWhole = n > SIX_TREES && (n - SIX_TREES) % 4 == 0;
            due(plant(new KeyOrchard(), LONGEST.substring(0, n)), isWhole ? 6 : -100 - n, n + " codes");
        }
        due(plant(new KeyOrchard(), LONGEST), 6, "the longest TEXT");
        says("no PRISONERS: so, too");
        StringBuilder trees = new StringBuilder("k");
        for (int count = 1; count <= 6; count++) {
            trees.append("g23");
            due(plant(new KeyOrchard(), trees.toString()), -100 - trees.length(), trees.toString());
        }
    }

    private static void firstOfSeveralFaults() {
        says("the first code with which no TEXT goes on");
        for (int place = 0; place < LONGEST.length(); place++) {
            due(withCode(LONGEST, place, 'x'), -100 - place, "x at " + place);
            StringBuilder two = new StringBuilder(LONGEST);
            two.setCharAt(LONGEST.length() - 1, 'y');
            two.setCharAt(place, 'x');
            due(plant(new KeyOrchard(), two.toString()), -100 - place, "x at " + place + ", y at the end");
            due(plant(new KeyOrchard(), LONGEST.substring(0, place) + "x"), -100 - place, "x at the end, " + place);
        }
    }

    private static void codesBehindTheLast() {
        says("a code behind the last PRISONER's");
        refusedCodes("kt01;000 ", 8, 'x', '0', 't', 'g', 'o', 'k', 58, 60, 0, -1, NONE, LEAST, MOST);
        refusedCodes(LONGEST + " ", LONGEST.length(), 'x', '0', 't', ';', 0, -1, NONE, LEAST, MOST);
    }

    private static void cellsOfARow() {
        says("n cells of a SHEET from i on");
        String text = "kt01;000";
        KeyOrchard x = new KeyOrchard();
        x.sheet(3, SHORTS, 50);
        for (int i = 0; i < text.length(); i++) {
            x.put(3, 42 + i, text.charAt(i));
        }
        due(x.orchard(3, SHORTS, 42, 8), 1, "up to the last cell");
        due(x.orchard(3, SHORTS, 42, 9), INDEX, "one beyond the last cell");
        due(x.orchard(3, SHORTS, 43, 8), INDEX, "one beyond the last cell");
        due(x.orchard(3, SHORTS, 43, 7), -100, "from the second code on");
        due(x.orchard(3, SHORTS, 41, 9), -100, "from the cell ahead on");
        due(x.orchard(3, SHORTS, 42, 7), -107, "places are numbered from i on");
        says("INDEX also where i is not 0 .. how many there are, if no cell is taken, too");
        due(x.orchard(3, SHORTS, 50, 0), -100, "no cells at the end");
        due(x.fault(), 0, "fault");
        due(x.orchard(3, SHORTS, 51, 0), INDEX, "no cells behind the end");
        due(x.orchard(3, SHORTS, -1, 0), INDEX, "no cells ahead");
        due(x.fault(), 3, "fault");
        x.sheet(3, SHORTS, 0);
        due(x.orchard(3, SHORTS, 0, 0), -100, "an empty row");
        due(x.orchard(3, SHORTS, 1, 0), INDEX, "an empty row");
        due(x.orchard(3, SHORTS, 0, 1), INDEX, "an empty row");
        due(x.orchard(3, BYTES, 1, -1), CAST, "an empty row is of its LANE");
        says("as many cells as there may be");
        write(x, 0, BYTES, LONGEST + "       ");
        due(x.orchard(0, BYTES, 0, 43), 6, "the longest TEXT");
        due(x.orchard(0, BYTES, 0, 44), -143, "one cell more");
        due(x.orchard(0, BYTES, 0, 50), -143, "all 50");
    }

    private static void codesOfLanes() {
        says("what comes to a cell is cut to its LANE");
        int[] more = {256, 65536, 0};
        for (int lane = 0; lane < 3; lane++) {
            for (int sign = -1; sign <= 1; sign += 2) {
                KeyOrchard x = new KeyOrchard();
                write(x, 0, lane, "kt01;000");
                for (int i = 0; i < 8; i++) {
                    x.put(0, i, "kt01;000".charAt(i) + sign * more[lane]);
                }
                due(x.orchard(0, lane, 0, 8), 1, "codes that are cut, LANE " + lane);
            }
        }
        KeyOrchard x = new KeyOrchard();
        write(x, 0, SHORTS, "kt01;000");
        x.put(0, 0, 107 + 256);
        due(x.orchard(0, SHORTS, 0, 8), -100, "a short is not cut to a byte");
    }

    private static void opens() {
        says("OPENS: a TREE's key its LOCK; a GRAFTED one's also the next (behind 5 comes 0); an OLD one's all");
        for (int lock = 0; lock < 6; lock++) {
            KeyOrchard x = orchardOf("kt" + lock + "1g" + lock + "1o" + lock + "1;000");
            due(x.ofTree(0, 4), 1 << lock, "TREE of " + lock);
            due(x.ofTree(1, 4), lock == 5 ? 33 : 3 << lock, "GRAFTED of " + lock);
            due(x.ofTree(2, 4), 63, "OLD of " + lock);
        }
    }

    private static void wants() {
        says("WANTS: as much as it NEEDS; 1 more; twice what a GRAFTED one WANTS");
        for (int needs = 1; needs <= 9; needs++) {
            KeyOrchard x = orchardOf("kt0" + needs + "g0" + needs + "o0" + needs + ";000");
            due(x.ofTree(0, 3), needs, "TREE");
            due(x.ofTree(1, 3), needs + 1, "GRAFTED");
            due(x.ofTree(2, 3), 2 * needs + 2, "OLD");
        }
    }

    private static KeyOrchard full() {
        KeyOrchard x = orchardOf("kt02t12;029;129");
        rainDaily(x, 9);
        for (int day = 0; day < 30; day++) {
            x.water(day, day % 2);
            x.frost(day, true);
        }
        for (int c = 0; c < 6; c++) {
            x.crow(c, 0);
        }
        for (int r = 0; r < 8; r++) {
            x.reading(0, r, true);
        }
        x.fell(0, true);
        x.fell(1, true);
        return x;
    }

    private static void allAnew() {
        says("all anew: no RAIN, nothing WATERED, no FROST");
        KeyOrchard x = full();
        due(plant(x, "kt02t12;029;129"), 2, "the same TEXT");
        for (int day = 0; day < 30; day++) {
            due(x.rain(day, 0), 0, "rain of DAY " + day);
            due(x.water(day, NONE), NONE, "water of DAY " + day);
            due(x.frost(day, false), 0, "frost of DAY " + day);
        }
        due(x.has(0, 29), 0, "has");
        says("all anew: no TREE FELLED");
        due(x.ofTree(0, 5), 0, "FELLED");
        due(x.ofTree(1, 5), 0, "FELLED");
        x.rain(0, 2);
        due(x.by(0), 0, "by");
        due(x.by(1), 1, "by");
    }

    private static void numbersAnew() {
        KeyOrchard x = full();
        due(plant(x, "kt02t12;029;129"), 2, "the same TEXT");
        says("all anew: no CROWS");
        due(x.many(2), 0, "many");
        due(x.shoo(1), OUTSIDE, "shoo");
        x.rain(0, 2);
        due(x.by(0), 0, "no CROW comes");
        for (int c = 0; c < 6; c++) {
            due(x.crow(29, 0), c, "crow");
        }
        due(x.crow(29, 0), FULL, "crow");
        says("all anew: no READINGS");
        due(x.many(3), 0, "many");
        due(x.back(1), OUTSIDE, "back");
        due(x.thief(20), 3, "thief");
        for (int r = 0; r < 8; r++) {
            due(x.reading(0, 29, true), r, "reading");
        }
        due(x.reading(0, 29, true), FULL, "reading");
    }

    private static void whatStays() {
        says("but for the SHEETS and TRACE");
        KeyOrchard x = orchardOf("ko12;029");
        x.tell(0);
        x.shake(0);
        int trace = x.trace();
        write(x, 3, INTS, "xy");
        write(x, 1, SHORTS, "kt01;000");
        due(x.orchard(1, SHORTS, 0, 8), 1, "another TEXT");
        due(x.trace(), trace, "trace");
        due(x.cell(3, 1, INTS), 'y', "another SHEET");
        due(x.cell(1, 7, SHORTS), '0', "its own SHEET");
        due(x.cell(0, 0, BYTES), 'k', "the SHEET of the one ahead");
        due(x.lose(2), 0, "a SHEET that had nothing");
    }

    private static void smallerAndLargerOrchards() {
        says("a TEXT makes all anew: fewer, and more");
        KeyOrchard x = new KeyOrchard();
        due(plant(x, LONGEST), 6, "six of each");
        due(plant(x, "kg33;303"), 1, "one of each");
        due(x.many(0), 1, "many");
        due(x.many(1), 1, "many");
        due(x.ofTree(1, 0), UNKNOWN, "ofTree");
        due(x.ofPrisoner(1, 0), UNKNOWN, "ofPrisoner");
        due(x.water(0, 1), UNKNOWN, "water");
        due(x.free(29), 1, "free");
        due(x.out(0), 3, "out");
        due(x.thief(0), 1, "thief");
        due(x.green(0, -1), 0, "green");
        due(plant(x, LONGEST), 6, "six of each");
        for (int i = 0; i < 6; i++) {
            due(x.ofTree(i, 0), i % 3, "kind");
            due(x.ofTree(i, 1), i, "LOCK");
            due(x.ofPrisoner(i, 0), i, "LOCK");
        }
        due(x.free(29), 63, "free");
        due(x.thief(0), 63, "thief");
    }

    private static void apartFromItsSheet() {
        says("the ORCHARD is by the TEXT as it was");
        KeyOrchard x = orchardOf("kt01g12;029;112");
        x.put(0, 1, 'o');
        x.put(0, 3, '9');
        due(x.ofTree(0, 0), 0, "kind");
        due(x.lose(0), 1, "lose");
        due(x.ofTree(0, 2), 1, "NEEDS");
        due(x.ofPrisoner(1, 1), 12, "TERM");
        due(x.many(0), 2, "many");
    }
}
