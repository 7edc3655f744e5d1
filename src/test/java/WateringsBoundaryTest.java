/** LEAST, MOST, SAWS and WORTH ("Terms" 3, promises 15 to 18) at their bounds. */
public final class WateringsBoundaryTest extends Checks {
    private WateringsBoundaryTest() {
    }

    public static void main(String[] args) {
        leastOfNone();
        leastOfEachNumber();
        leastIsAtMostFour();
        leastByADay();
        leastInPlaceOfAllThatAre();
        leastNoneOnOtherDays();
        leastByATree();
        leastTheFirstRow();
        leastTheFirstRowIsByTheFirstDay();
        leastPlacesOfTheRow();
        leastOfFelledTrees();
        leastOfOneOfManyTrees();
        mostOfNone();
        mostOfFour();
        mostByADay();
        mostByTrees();
        mostInPlaceOfAllThatAre();
        mostTheFirstRow();
        mostOfNoOne();
        mostPlacesOfTheRow();
        mostOfASixth();
        mostInFrostWithCrows();
        sawsOfNone();
        sawsByADay();
        sawsByATree();
        sawsOfAll();
        sawsMoreThanAre();
        sawsTheFewest();
        sawsTheLeast();
        worthOfNothing();
        worthOfOneFelled();
        worthAllTogether();
        worthAtItsMost();
        worthIsNeverLess();
        end("the bounds of waterings and saws are as told");
    }

    private static void rowOfLeast(KeyOrchard x, int p, int day, int... row) {
        due(x.least(p, day, -1), row.length, "how many");
        for (int q = 0; q < row.length; q++) {
            due(x.least(p, day, q), row[q], "TREE " + q + " of the row");
        }
        due(x.least(p, day, row.length), NONE, "there are fewer");
        due(x.least(p, day, row.length + 1), NONE, "there are fewer");
        due(x.least(p, day, 4), NONE, "there are fewer");
        due(x.least(p, day, 5), NONE, "there are fewer");
        due(x.least(p, day, MOST), NONE, "there are fewer");
    }

    private static void noLeast(KeyOrchard x, int p, int day) {
        for (int q : new int[] {-1, 0, 1, 2, 3, 4, MOST}) {
            due(x.least(p, day, q), NONE, "it can't be, " + q);
        }
    }

    private static void rowOfMost(KeyOrchard x, int day, int count, int... row) {
        due(x.most(day, row.length, -1), count, "how many");
        for (int q = 0; q < row.length; q++) {
            due(x.most(day, row.length, q), row[q], "TREE " + q + " of the row");
        }
        due(x.most(day, row.length, row.length), NONE, "there are fewer");
        due(x.most(day, row.length, 4), NONE, "there are fewer");
        due(x.most(day, row.length, 5), NONE, "there are fewer");
        due(x.most(day, row.length, MOST), NONE, "there are fewer");
    }

    private static void leastOfNone() {
        says("LEAST: k (0 .. 4): none are needed");
        KeyOrchard x = rained("kt03t13;029;129", 0, 0, 3);
        rowOfLeast(x, 0, 2);
        rowOfLeast(x, 1, 29);
    }

    private static void leastOfEachNumber() {
        says("LEAST: the fewest WATERINGS");
        int[] needs = {1, 3, 4, 6, 7, 9};
        int[] waterings = {1, 1, 2, 2, 3, 3};
        for (int i = 0; i < needs.length; i++) {
            KeyOrchard x = orchardOf("kt0" + needs[i] + ";029");
            rowOfLeast(x, 0, 29, new int[waterings[i]]);
            rowOfLeast(x, 0, waterings[i] - 1, new int[waterings[i]]);
            if (waterings[i] > 1) {
                noLeast(x, 0, waterings[i] - 2);
            }
        }
    }

    private static void leastIsAtMostFour() {
        says("LEAST: k (0 .. 4): 4 are the most");
        KeyOrchard x = orchardOf("ko05t13;029");
        rowOfLeast(x, 0, 29, 0, 0, 0, 0);
        rowOfLeast(x, 0, 3, 0, 0, 0, 0);
        noLeast(x, 0, 2);
        KeyOrchard y = rained("ko06;029", 0, 0, 0, 1);
        noLeast(y, 0, 29);
        y.rain(29, 1);
        rowOfLeast(y, 0, 29, 0, 0, 0, 0);
        noLeast(y, 0, 28);
    }

    private static void leastByADay() {
        says("LEAST: on that DAY or ahead of it");
        KeyOrchard x = rained("kt04;029", 0, 0, 0, 0, 0, 1, 0, 3);
        rowOfLeast(x, 0, 29);
        rowOfLeast(x, 0, 7);
        rowOfLeast(x, 0, 6, 0);
        rowOfLeast(x, 0, 5, 0);
        rowOfLeast(x, 0, 4, 0, 0);
        rowOfLeast(x, 0, 1, 0, 0);
        noLeast(x, 0, 0);
    }

    private static void leastInPlaceOfAllThatAre() {
        says("LEAST: in place of all that are");
        KeyOrchard x = orchardOf("kt03t13;029;129");
        x.water(0, 0);
        due(x.out(0), 0, "out by what is WATERED");
        rowOfLeast(x, 0, 29, 0);
        rowOfLeast(x, 1, 29, 1);
        due(x.out(0), 0, "what is WATERED stays");
        due(x.out(1), 29, "what is WATERED stays");
        due(x.water(0, 0), 0, "what is WATERED stays");
    }

    private static void leastNoneOnOtherDays() {
        says("LEAST: none on other DAYS");
        KeyOrchard x = orchardOf("ko06;029");
        for (int day = 0; day < 30; day++) {
            x.water(day, 0);
        }
        due(x.out(0), 4, "out by what is WATERED");
        noLeast(x, 0, 29);
        due(x.out(0), 4, "what is WATERED stays");
    }

    private static void leastByATree() {
        says("LEAST: OUT by a TREE");
        KeyOrchard x = orchardOf("kt04;000;001");
        due(x.out(0), 0, "out by the TERM");
        noLeast(x, 0, 29);
        rowOfLeast(x, 1, 29, 0, 0);
        rowOfLeast(x, 1, 1, 0, 0);
        noLeast(x, 1, 0);
        KeyOrchard y = rained("kt04;001", 0, 0, 4);
        rowOfLeast(y, 0, 29, 0, 0);
    }

    private static void leastTheFirstRow() {
        says("LEAST: the first such row of TREES");
        KeyOrchard x = orchardOf("kt13t03t03;029");
        rowOfLeast(x, 0, 29, 1);
        KeyOrchard y = orchardOf("kt16t06t06;029");
        rowOfLeast(y, 0, 29, 1, 1);
        y.frost(0, true);
        rowOfLeast(y, 0, 29, 0, 1, 1);
        y.frost(1, true);
        rowOfLeast(y, 0, 29, 0, 0, 1, 1);
        y.frost(3, true);
        noLeast(y, 0, 29);
    }

    private static void leastTheFirstRowIsByTheFirstDay() {
        says("LEAST: the first such row: by DAY 0 first");
        KeyOrchard x = rained("kt13t03;029;029", 3);
        x.fell(0, true);
        due(x.by(0), 1, "by");
        rowOfLeast(x, 1, 29, 0, 1);
        x.frost(1, true);
        rowOfLeast(x, 1, 29, 0, 0, 1);
    }

    private static void leastPlacesOfTheRow() {
        says("least: q -1 .. : UNKNOWN below -1; NONE: there are fewer");
        KeyOrchard x = orchardOf("kt03;029");
        due(x.least(0, 0, -1), 1, "-1");
        due(x.least(0, 0, 0), 0, "0");
        due(x.least(0, 0, 1), NONE, "1");
        due(x.least(0, 0, MOST), NONE, "the largest int");
        due(x.least(0, 0, -2), UNKNOWN, "-2");
        due(x.least(0, 0, NONE), UNKNOWN, "-9");
        due(x.least(0, 0, LEAST), UNKNOWN, "the least int");
    }

    private static void leastOfFelledTrees() {
        says("LEAST: one TREE a DAY, FELLED or not");
        KeyOrchard x = orchardOf("kt03t03;029");
        x.frost(0, true);
        x.fell(0, true);
        rowOfLeast(x, 0, 29, 0, 1);
        x.fell(1, true);
        noLeast(x, 0, 29);
    }

    private static void leastOfOneOfManyTrees() {
        says("LEAST: rows of six TREES");
        KeyOrchard x = orchardOf("kt09t19t29t39t49o55;529");
        rowOfLeast(x, 0, 29, 5, 5, 5, 5);
        x.rain(3, 9);
        rowOfLeast(x, 0, 29, 5);
        rowOfLeast(x, 0, 3, 5);
        noLeast(x, 0, 2);
    }

    private static void mostOfNone() {
        says("MOST: k WATERINGS (0 .. 4): none");
        KeyOrchard x = rained("kt03;029;029;029", 3, 0, 3);
        rowOfMost(x, 29, 2);
        rowOfMost(x, 1, 1);
        due(x.most(29, -1, -1), OUTSIDE, "one below");
    }

    private static void mostOfFour() {
        says("MOST: k WATERINGS (0 .. 4): four");
        KeyOrchard x = orchardOf("kt03;029;029;029;029;029");
        rowOfMost(x, 29, 4, 0, 0, 0, 0);
        rowOfMost(x, 3, 4, 0, 0, 0, 0);
        rowOfMost(x, 29, 3, 0, 0, 0);
        due(x.most(29, 5, -1), OUTSIDE, "one above");
    }

    private static void mostByADay() {
        says("MOST: on that DAY or ahead");
        KeyOrchard x = orchardOf("kt03t13;129;029;129");
        rowOfMost(x, 29, 3, 0, 1, 1);
        rowOfMost(x, 2, 3, 0, 1, 1);
        rowOfMost(x, 1, 2, 0, 1, 0);
        rowOfMost(x, 0, 1, 0, 0, 0);
        rowOfMost(x, 0, 1, 0);
        x.rain(29, 3);
        rowOfMost(x, 28, 1, 0);
        rowOfMost(x, 29, 3, 1);
    }

    private static void mostByTrees() {
        says("MOST: PRISONERS OUT, by TREES");
        KeyOrchard x = orchardOf("kt06;000;001;005;129");
        rowOfMost(x, 29, 0);
        rowOfMost(x, 29, 0, 0);
        rowOfMost(x, 29, 1, 0, 0);
        rowOfMost(x, 29, 1, 0, 0, 0);
        rowOfMost(x, 29, 2, 0, 0, 0, 0);
        rowOfMost(x, 1, 1, 0, 0, 0, 0);
    }

    private static void mostInPlaceOfAllThatAre() {
        says("MOST: in place of all that are, none on other DAYS");
        KeyOrchard x = orchardOf("kt03t13;129;029");
        x.water(0, 1);
        x.water(9, 0);
        due(x.free(28), 3, "free by what is WATERED");
        rowOfMost(x, 29, 0);
        rowOfMost(x, 29, 1, 0);
        rowOfMost(x, 29, 2, 0, 1);
        due(x.free(28), 3, "what is WATERED stays");
        due(x.water(9, 0), 0, "what is WATERED stays");
    }

    private static void mostTheFirstRow() {
        says("MOST: of several the first");
        KeyOrchard x = orchardOf("kt59t03t03;029;029");
        rowOfMost(x, 29, 1, 1);
        rowOfMost(x, 29, 2, 1, 1);
        rowOfMost(x, 29, 2, 0, 1, 1);
        rowOfMost(x, 29, 2, 0, 0, 1, 1);
        KeyOrchard none = orchardOf("kt59t59t59;029;029");
        rowOfMost(none, 29, 0, 0, 0, 0, 0);
        KeyOrchard last = orchardOf("kt59t09t03;029;029;029;029");
        rowOfMost(last, 29, 4, 2, 2, 2, 2);
    }

    private static void mostOfNoOne() {
        says("MOST: no one is OUT by any row: the first one of all");
        KeyOrchard x = orchardOf("kt49t51t46;529");
        rowOfLeast(x, 0, 29, 1);
        x.frost(0, true);
        rowOfLeast(x, 0, 29, 0, 1);
        rowOfMost(x, 0, 0, 0, 0);
        rowOfMost(x, 29, 1, 0, 0, 1);
        x.fell(1, true);
        rowOfMost(x, 29, 0, 0, 0, 0);
    }

    private static void mostPlacesOfTheRow() {
        says("most: q -1 .. : UNKNOWN below -1; NONE: there are fewer");
        KeyOrchard x = orchardOf("kt03;029;029");
        due(x.most(29, 2, -1), 2, "-1");
        due(x.most(29, 2, 0), 0, "0");
        due(x.most(29, 2, 1), 0, "1");
        due(x.most(29, 2, 2), NONE, "2");
        due(x.most(29, 2, MOST), NONE, "the largest int");
        due(x.most(29, 2, -2), UNKNOWN, "-2");
        due(x.most(29, 2, NONE), UNKNOWN, "-9");
        due(x.most(29, 2, LEAST), UNKNOWN, "the least int");
        due(x.most(29, 0, 0), NONE, "no WATERINGS");
    }

    private static void mostOfASixth() {
        says("MOST: all six PRISONERS");
        KeyOrchard x = rained("kt03t13t23t33t43t53;529;429;329;229;129;029", 3);
        rowOfMost(x, 0, 6);
        rowOfMost(x, 29, 6, 0, 0, 0, 0);
        x.rain(0, 0);
        x.rain(4, 2);
        rowOfMost(x, 29, 4, 0, 1, 2, 3);
        x.rain(4, 3);
        rowOfMost(x, 29, 6, 0, 0, 0, 0);
    }

    private static void mostInFrostWithCrows() {
        says("MOST, LEAST: FROSTS and CROWS as they are");
        KeyOrchard x = orchardOf("kt03t13;029;129");
        x.frost(0, true);
        x.crow(1, 0);
        rowOfMost(x, 29, 1, 0, 1);
        rowOfMost(x, 29, 2, 0, 1, 0);
        rowOfMost(x, 29, 2, 0, 0, 0, 1);
        rowOfLeast(x, 0, 29, 0, 0, 0);
        rowOfLeast(x, 1, 29, 0, 1);
    }

    private static void sawsOfNone() {
        says("SAWS: none are needed");
        KeyOrchard x = rained("kt03t13;029;229", 3);
        due(x.saws(1, 0), 0, "no key fits");
        due(x.saws(1, 29), 0, "no key fits");
        due(x.saws(0, 0), 1, "one is needed");
        x.fell(0, true);
        due(x.saws(0, 29), 0, "it is FELLED");
    }

    private static void sawsByADay() {
        says("SAWS: on a DAY or ahead of it");
        KeyOrchard x = rained("kt03t03;029", 0, 3, 0, 1);
        due(x.saws(0, 0), 0, "ahead of the key's DAY");
        due(x.saws(0, 1), 3, "on the key's DAY");
        due(x.saws(0, 2), 3, "behind it");
        due(x.saws(0, 29), 3, "on the last DAY");
        KeyOrchard y = rained("kt03t04;029", 0, 3, 0, 1);
        due(y.saws(0, 2), 1, "the second key comes later");
        due(y.saws(0, 3), 3, "on the second key's DAY");
    }

    private static void sawsByATree() {
        says("SAWS: not OUT by a TREE");
        KeyOrchard x = rained("kt03;000;003", 0, 0, 0, 3);
        due(x.saws(0, 29), 0, "out by the TERM");
        due(x.saws(1, 2), 0, "not yet");
        due(x.saws(1, 3), 1, "a key ahead of the TERM");
    }

    private static void sawsOfAll() {
        says("SAWS: all TREES are enough");
        KeyOrchard x = rained("kt01t01t01t01t01t01;029", 1);
        due(x.saws(0, 0), 63, "all six");
        due(x.saws(0, 29), 63, "all six");
        KeyOrchard y = rained("ko01;529", 4);
        due(y.saws(0, 0), 1, "the one");
    }

    private static void sawsMoreThanAre() {
        says("SAWS: more than are");
        KeyOrchard x = rained("kt01t01t01t01t01t01;029", 1);
        int left = 63;
        for (int t = 5; t >= 0; t--) {
            x.fell(t, true);
            left -= 1 << t;
            due(x.saws(0, 29), left, "without those that are FELLED");
        }
        x.fell(0, false);
        x.fell(4, false);
        due(x.saws(0, 29), 17, "those that stand");
        due(x.ofTree(1, 5), 1, "FELLED stays");
        due(x.ofTree(4, 5), 0, "none is FELLED by asking");
    }

    private static void sawsTheFewest() {
        says("SAWS: the fewest TREES");
        KeyOrchard x = rained("kt11t11o01;129;029", 4);
        due(x.by(0), 0, "by");
        due(x.by(1), 2, "by");
        due(x.saws(1, 29), 4, "TREE 2 alone, not 0 and 1");
        x.fell(1, true);
        due(x.saws(1, 29), 1, "TREE 0 alone now, the lesser set");
    }

    private static void sawsTheLeast() {
        says("SAWS: of several the least");
        KeyOrchard x = rained("kt31t01t01t01;029;029;029", 1);
        due(x.saws(2, 29), 2, "one of 1, 2, 3");
        due(x.saws(1, 29), 6, "two of 1, 2, 3");
        due(x.saws(0, 29), 14, "all of them");
        x.fell(1, true);
        due(x.saws(2, 29), 0, "none");
        due(x.saws(1, 29), 4, "one of 2, 3");
    }

    private static void worthOfNothing() {
        says("WORTH, and 10000: no DAY later");
        KeyOrchard x = rained("kt03t03t03t13;029", 3);
        due(x.worth(0), 10000, "the next one's key is as good");
        due(x.worth(2), 10000, "not needed");
        due(x.worth(3), 10000, "no one fits");
        KeyOrchard y = rained("kt03;000;029", 3);
        due(y.worth(0), 10000, "the TERM comes on that DAY, too");
    }

    private static void worthOfOneFelled() {
        says("WORTH, and 10000: of one that is FELLED");
        KeyOrchard x = rained("kt03;029", 3);
        due(x.worth(0), 10029, "it stands");
        x.fell(0, true);
        due(x.worth(0), 10000, "it is FELLED");
        due(x.ofTree(0, 5), 1, "FELLED");
        x.fell(0, false);
        due(x.worth(0), 10029, "it stands again");
        due(x.ofTree(0, 5), 0, "none is FELLED by asking");
        due(x.by(0), 0, "none is FELLED by asking");
    }

    private static void worthAllTogether() {
        says("WORTH: all PRISONERS together");
        KeyOrchard x = rained("kt03o01;029;110;029;512", 3, 1);
        int[] out = {0, 1, 29, 12};
        int[] without = {1, 10, 29, 12};
        int later = 0;
        for (int p = 0; p < 4; p++) {
            due(x.out(p), out[p], "out");
            later += without[p] - out[p];
        }
        due(x.worth(0), 10000 + later, "0 and 1 are later");
        due(x.worth(1), 10000 + 10 - 1, "1 is later");
    }

    private static void worthAtItsMost() {
        says("WORTH: how many DAYS later: the most");
        KeyOrchard x = orchardOf("ko01;029;129;229;329;429;529");
        rainDaily(x, 4);
        due(x.worth(0), 10000 + 29 + 28 + 27 + 26 + 25 + 24, "six PRISONERS");
    }

    /**
     * "Less, if it is earlier" can't be: with a TREE more, those that are in are always some of those
     * that would be in without it, and a key that lets none of them out is of no use later either.
     */
    private static void worthIsNeverLess() {
        says("WORTH: less, if it is earlier");
        KeyOrchard x = rained("kt03o01g02;229;029;129;029;329", 2, 2, 3, 1, 3);
        for (int t = 0; t < 3; t++) {
            due(x.worth(t) >= 10000 ? 1 : 0, 1, "not earlier without TREE " + t);
        }
    }
}
