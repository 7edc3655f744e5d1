/** ODDS, GREEN keys, READINGS and THIEF ("Terms" 4, promises 19 to 23) at their bounds. */
public final class OddsBoundaryTest extends Checks {
    private OddsBoundaryTest() {
    }

    public static void main(String[] args) {
        oddsOfNoRows();
        oddsOfEightDays();
        oddsOfRainThree();
        oddsInLeastTerms();
        oddsOfNoneAndAll();
        oddsInPlaceOfRain();
        oddsAheadOfTheDay();
        oddsOfOtherThingsAsTheyAre();
        oddsByATree();
        oddsOfEachDaysRow();
        greenByTheSum();
        greenOfThree();
        greenOfFewerThanThree();
        greenOfSixAlike();
        greenOfSixUnlike();
        greenOfThoseThatStand();
        greenOfAllKinds();
        readingsAtMostEight();
        readingsTakenBack();
        readingsAtTheEndOfADay();
        readingsOfTheFirstAndTheLastDay();
        readingsThatContradict();
        thiefWithoutReadings();
        thiefOfThatDay();
        thiefAtACrowThatFindsNothing();
        thiefByAllReadings();
        thiefBesidesSixCrows();
        thiefAtFelledTrees();
        thiefOfTheFirstAndTheLastDay();
        thiefAsked();
        end("the bounds of odds, green keys and thieves are as told");
    }

    private static void share(KeyOrchard x, int p, int n, int upper, int lower) {
        due(x.odds(p, n, 0), upper, "upper number, n " + n);
        due(x.odds(p, n, 1), lower, "lower number, n " + n);
    }

    private static void oddsOfNoRows() {
        says("ODDS: n 0: no DAYS, one empty row");
        KeyOrchard x = rained("kt01;000;029", 9, 9);
        share(x, 0, 0, 0, 1);
        share(x, 1, 0, 0, 1);
        due(x.odds(0, -1, 0), LOST, "n below 0");
    }

    private static void oddsOfEightDays() {
        says("ODDS: n 0 .. 8");
        KeyOrchard x = orchardOf("kt03t16t29o39;029;129;229;329");
        x.fell(3, true);
        share(x, 0, 8, 255, 256);
        share(x, 1, 8, 256 - 1 - 8, 256);
        share(x, 2, 8, 256 - 1 - 8 - 28, 256);
        share(x, 3, 8, 0, 1);
        due(x.odds(0, 9, 0), LOST, "n above 8");
        due(x.odds(0, 9, 1), LOST, "n above 8");
        KeyOrchard old = orchardOf("ko09;029");
        share(old, 0, 8, 8 + 1, 256);
        share(old, 0, 7, 1, 128);
        share(old, 0, 6, 0, 1);
    }

    private static void oddsOfRainThree() {
        says("ODDS: the RAIN is 0 or 3");
        share(orchardOf("kt01;029"), 0, 1, 1, 2);
        share(orchardOf("kt03;029"), 0, 1, 1, 2);
        share(orchardOf("kt04;029"), 0, 1, 0, 1);
        share(orchardOf("kt04;029"), 0, 2, 1, 4);
        share(orchardOf("kt06;029"), 0, 2, 1, 4);
        share(orchardOf("kt07;029"), 0, 2, 0, 1);
        share(orchardOf("kt09;029"), 0, 3, 1, 8);
    }

    private static void oddsInLeastTerms() {
        says("shares in least terms");
        KeyOrchard x = orchardOf("kt06;029");
        share(x, 0, 3, 1, 2);
        share(x, 0, 4, 11, 16);
        share(x, 0, 5, 13, 16);
        share(x, 0, 6, 57, 64);
        share(x, 0, 7, 15, 16);
        share(x, 0, 8, 247, 256);
    }

    private static void oddsOfNoneAndAll() {
        says("shares: lower number above 0, in least terms");
        KeyOrchard x = orchardOf("kt03;029;529");
        x.water(0, 0);
        for (int n = 1; n <= 8; n++) {
            share(x, 0, n, 1, 1);
            share(x, 1, n, 0, 1);
        }
        due(x.odds(0, 8, 2), LOST, "which above 1");
        due(x.odds(0, 8, -1), LOST, "which below 0");
    }

    private static void oddsInPlaceOfRain() {
        says("ODDS: RAIN in place of what is told, on DAYS 0 .. n less 1");
        KeyOrchard x = rained("kt04;029", 9, 9, 9);
        share(x, 0, 1, 0, 1);
        share(x, 0, 2, 1, 4);
        share(x, 0, 3, 1, 2);
        due(x.rain(0, 9), 9, "RAIN stays as told");
        due(x.rain(2, 9), 9, "RAIN stays as told");
        due(x.out(0), 0, "RAIN stays as told");
    }

    private static void oddsAheadOfTheDay() {
        says("ODDS: OUT ahead of DAY n");
        KeyOrchard x = orchardOf("kt03;029");
        x.water(2, 0);
        share(x, 0, 1, 1, 2);
        share(x, 0, 2, 3, 4);
        share(x, 0, 3, 1, 1);
        KeyOrchard y = rained("kt03;029", 0, 0, 9);
        share(y, 0, 2, 3, 4);
    }

    private static void oddsOfOtherThingsAsTheyAre() {
        says("ODDS: FROSTS, CROWS, what is WATERED and FELLED as they are");
        KeyOrchard x = orchardOf("kt03;029");
        x.frost(0, true);
        share(x, 0, 1, 0, 1);
        share(x, 0, 2, 1, 2);
        x.frost(1, true);
        share(x, 0, 2, 0, 1);
        KeyOrchard y = orchardOf("kt03;029");
        y.crow(0, 0);
        share(y, 0, 1, 0, 1);
        share(y, 0, 2, 1, 2);
        y.fell(0, true);
        share(y, 0, 8, 0, 1);
        KeyOrchard z = orchardOf("kt04;029");
        z.water(0, 0);
        share(z, 0, 1, 1, 2);
        share(z, 0, 2, 3, 4);
    }

    private static void oddsByATree() {
        says("ODDS: OUT by a TREE");
        KeyOrchard x = orchardOf("kt03;000;002");
        share(x, 0, 1, 1, 2);
        share(x, 0, 8, 1, 2);
        share(x, 1, 1, 0, 1);
        share(x, 1, 2, 1, 2);
        share(x, 1, 3, 3, 4);
        share(x, 1, 8, 3, 4);
    }

    private static void oddsOfEachDaysRow() {
        says("ODDS: each of DAYS 0 .. n less 1");
        for (int day = 0; day < 8; day++) {
            KeyOrchard x = orchardOf("kt03;029");
            for (int other = 0; other < 8; other++) {
                x.frost(other, other != day);
            }
            share(x, 0, day, 0, 1);
            for (int n = day + 1; n <= 8; n++) {
                share(x, 0, n, 1, 2);
            }
        }
    }

    private static void greenByTheSum() {
        says("GREEN: the LOCKS' sum, by 6, leaves a told LOCK");
        String[] texts = {"kt01t01t01;029", "kt01t01t11;029", "kt11t21t21;029", "kt21t21t21;029", "kt11t21t31;029",
            "kt31t21t21;029", "kt51t51t11;029", "kt41t41t41;029", "kt51t51t51;029"};
        int[] left = {0, 1, 5, 0, 0, 1, 5, 0, 3};
        for (int i = 0; i < texts.length; i++) {
            KeyOrchard x = orchardOf(texts[i]);
            for (int lock = 0; lock < 6; lock++) {
                due(x.green(lock, -1), lock == left[i] ? 1 : 0, texts[i] + " for " + lock);
                due(x.green(lock, 0), lock == left[i] ? 7 : NONE, texts[i] + " for " + lock);
            }
            due(x.green(6, -1), OUTSIDE, "lock above 5");
            due(x.green(-1, -1), OUTSIDE, "lock below 0");
        }
    }

    private static void greenOfThree() {
        says("green: how many sets (k -1), the k-th; NONE: there are fewer; UNKNOWN: k below -1");
        KeyOrchard x = orchardOf("kt01t01t01;029");
        due(x.green(0, -1), 1, "-1");
        due(x.green(0, 0), 7, "0");
        due(x.green(0, 1), NONE, "1");
        due(x.green(0, MOST), NONE, "the largest int");
        due(x.green(0, -2), UNKNOWN, "-2");
        due(x.green(0, NONE), UNKNOWN, "-9");
        due(x.green(0, LEAST), UNKNOWN, "the least int");
    }

    private static void greenOfFewerThanThree() {
        says("GREEN: three unlike TREES");
        for (String text : new String[] {"kt01;029", "kt01t01;029", "ko21g21;029", "kt31t01;029"}) {
            KeyOrchard x = orchardOf(text);
            for (int lock = 0; lock < 6; lock++) {
                due(x.green(lock, -1), 0, text);
                due(x.green(lock, 0), NONE, text);
            }
        }
    }

    private static void greenOfSixAlike() {
        says("GREEN: as sets, rising");
        KeyOrchard x = orchardOf("kt21t21t21t21t21t21;029");
        due(x.green(0, -1), 20, "as many as there may be");
        int k = 0;
        for (int set = 0; set < 64; set++) {
            if (Integer.bitCount(set) == 3) {
                due(x.green(0, k), set, "the set " + k);
                k++;
            }
        }
        due(x.green(0, 20), NONE, "there are fewer");
        due(x.green(3, -1), 0, "another LOCK");
    }

    private static void greenOfSixUnlike() {
        says("GREEN: the sum of three LOCKS, whatever the others are");
        int[] locks = {4, 1, 5, 0, 2, 5};
        KeyOrchard x = orchardOf("kt41t11t51t01t21t51;029");
        for (int lock = 0; lock < 6; lock++) {
            int k = 0;
            for (int set = 0; set < 64; set++) {
                int sum = 0;
                for (int t = 0; t < 6; t++) {
                    sum += (set >> t & 1) * locks[t];
                }
                if (Integer.bitCount(set) == 3 && sum % 6 == lock) {
                    due(x.green(lock, k), set, "the set " + k + " for " + lock);
                    k++;
                }
            }
            due(x.green(lock, -1), k, "how many for " + lock);
            due(x.green(lock, k), NONE, "there are fewer for " + lock);
        }
    }

    private static void greenOfThoseThatStand() {
        says("GREEN: TREES (not FELLED)");
        KeyOrchard x = orchardOf("kt21t21t21t21t21t21;029");
        int[] left = {20, 10, 4, 1, 0, 0, 0};
        for (int count = 0; count < 6; count++) {
            due(x.green(0, -1), left[count], count + " are FELLED");
            x.fell(count, true);
        }
        due(x.green(0, -1), 0, "all are FELLED");
        for (int t = 3; t < 6; t++) {
            due(x.green(0, 0), NONE, "too few stand");
            x.fell(t, false);
        }
        due(x.green(0, 0), 0b111000, "three stand");
    }

    private static void greenOfAllKinds() {
        says("GREEN: by LOCKS alone");
        KeyOrchard x = orchardOf("kt11g19o15;029");
        due(x.green(3, -1), 1, "a TREE, a GRAFTED, an OLD one");
        due(x.green(3, 0), 7, "a TREE, a GRAFTED, an OLD one");
        due(x.green(4, -1), 0, "a GRAFTED one's next LOCK is no LOCK of it");
    }

    private static void readingsAtMostEight() {
        says("READINGS, 8 at most, numbered by how many there are ahead (the first one is 0)");
        KeyOrchard x = orchardOf("kt01;029;029");
        for (int r = 0; r < 8; r++) {
            due(x.many(3), r, "many");
            due(x.reading(r % 2, r % 2 * 29, r % 3 == 0), r, "reading");
        }
        due(x.reading(0, 0, false), FULL, "a ninth");
        due(x.reading(0, 0, true), FULL, "a ninth");
        due(x.many(3), 8, "many");
        due(x.back(1), 7, "back");
        due(x.reading(0, 0, true), 7, "an eighth again");
        due(x.reading(0, 0, true), FULL, "a ninth");
    }

    private static void readingsTakenBack() {
        says("the last k READINGS (0 .. as many as there are) are taken back");
        KeyOrchard x = rained("kt01;029", 1);
        x.reading(0, 0, true);
        x.reading(0, 28, true);
        x.reading(0, 1, false);
        x.reading(0, 2, false);
        due(x.thief(5), 0, "thief");
        due(x.back(5), OUTSIDE, "one more than there are");
        due(x.back(-1), OUTSIDE, "below 0");
        due(x.back(0), 4, "none");
        due(x.thief(5), 0, "thief");
        due(x.back(1), 3, "one");
        due(x.thief(5), 0, "thief");
        due(x.back(1), 2, "one");
        due(x.thief(5), 1, "thief");
        due(x.back(3), OUTSIDE, "one more than there are");
        due(x.back(2), 0, "all");
        due(x.back(1), OUTSIDE, "one more than there are");
        due(x.back(0), 0, "none");
    }

    private static void readingsAtTheEndOfADay() {
        says("at the end of a DAY a PRISONER was OUT, or not");
        KeyOrchard x = rained("kt03t19;029;107", 0, 0, 0, 0, 0, 3);
        int[] out = {5, 7};
        for (int p = 0; p < 2; p++) {
            due(x.out(p), out[p], "out");
            for (int day = 0; day < 30; day++) {
                x.reading(p, day, true);
                due(x.thief(0), day >= out[p] ? 3 : 0, "OUT at the end of DAY " + day);
                x.back(1);
                x.reading(p, day, false);
                due(x.thief(0), day < out[p] ? 3 : 0, "in at the end of DAY " + day);
                x.back(1);
            }
        }
    }

    private static void readingsOfTheFirstAndTheLastDay() {
        says("READINGS of DAYS 0 and 29");
        KeyOrchard x = rained("kt03t03;029;029", 3);
        x.fell(1, true);
        x.reading(0, 0, false);
        due(x.thief(0), 1, "a key on DAY 0");
        x.back(1);
        x.reading(1, 29, false);
        due(x.thief(0), 0, "behind DAY 29 all are OUT");
        x.back(1);
        x.reading(1, 29, true);
        due(x.thief(0), 3, "behind DAY 29 all are OUT");
    }

    private static void readingsThatContradict() {
        says("READINGS that can't be so together");
        KeyOrchard x = rained("kt03;029", 3);
        due(x.reading(0, 0, true), 0, "reading");
        due(x.reading(0, 0, false), 1, "the contrary is taken, too");
        due(x.thief(0), 0, "thief");
        due(x.thief(1), 0, "thief");
    }

    private static void thiefWithoutReadings() {
        says("THIEF: all READINGS: there are none");
        StringBuilder trees = new StringBuilder("k");
        for (int count = 1; count <= 6; count++) {
            trees.append("t01");
            KeyOrchard x = orchardOf(trees + ";029");
            due(x.thief(0), (1 << count) - 1, "all TREES");
            due(x.thief(29), (1 << count) - 1, "all TREES");
        }
    }

    private static KeyOrchard threeAlone() {
        KeyOrchard x = orchardOf("kt02t12t22;029;129;229");
        rainDaily(x, 1);
        return x;
    }

    private static void thiefOfThatDay() {
        says("THIEF: one CROW more on a DAY at it");
        for (int p = 0; p < 3; p++) {
            KeyOrchard x = threeAlone();
            due(x.out(p), 1, "out");
            x.reading(p, 1, false);
            due(x.thief(0), 0, "a DAY ahead");
            due(x.thief(1), 1 << p, "on that DAY");
            due(x.thief(2), 0, "a DAY later");
            x.reading(p, 3, true);
            due(x.thief(1), 1 << p, "its water grows again");
            x.reading(p, 2, true);
            due(x.thief(1), 0, "it has not grown yet");
            due(x.out(p), 1, "no CROW comes by asking");
        }
    }

    private static void thiefAtACrowThatFindsNothing() {
        says("THIEF: a CROW finds too little water there");
        KeyOrchard x = threeAlone();
        x.reading(0, 1, true);
        x.reading(1, 0, false);
        due(x.thief(0), 7, "1 of 2 on DAY 0");
        due(x.thief(1), 6, "2 of 2 on DAY 1");
        due(x.thief(2), 7, "1 of 2 on DAY 2");
    }

    private static void thiefByAllReadings() {
        says("THIEF: makes all READINGS so");
        for (int wrong = -1; wrong < 8; wrong++) {
            KeyOrchard x = threeAlone();
            for (int r = 0; r < 8; r++) {
                boolean isOut = r >= 4;
                due(x.reading(r % 3, isOut ? 3 + r : 0, isOut == (r != wrong)), r, "reading");
            }
            due(x.thief(1), wrong < 0 ? 7 : 0, "8 READINGS, not so: " + wrong);
            if (wrong >= 0) {
                due(x.back(8 - wrong), wrong, "back");
                due(x.thief(1), 7, "those ahead of it are so");
            }
        }
    }

    private static void thiefBesidesSixCrows() {
        says("THIEF: one CROW more (also where there are 6)");
        KeyOrchard x = threeAlone();
        for (int c = 0; c < 6; c++) {
            due(x.crow(1, 2), c, "crow");
        }
        x.reading(2, 1, false);
        due(x.thief(1), 7, "a CROW more at any");
        x.reading(0, 1, false);
        due(x.thief(1), 1, "a CROW more at 0");
        due(x.many(2), 6, "many");
        due(x.crow(1, 0), FULL, "crow");
        x.back(2);
        x.reading(2, 1, true);
        due(x.thief(1), 0, "the CROWS that are there come, too");
        due(x.out(0), 1, "no CROW comes by asking");
    }

    private static void thiefAtFelledTrees() {
        says("THIEF: TREES, FELLED or not");
        KeyOrchard x = threeAlone();
        x.fell(2, true);
        x.reading(0, 1, true);
        due(x.thief(1), 6, "a CROW at one FELLED takes no key");
        x.reading(2, 28, false);
        due(x.thief(1), 6, "its key lets no one OUT");
        x.back(2);
        x.reading(0, 1, false);
        due(x.thief(1), 1, "thief");
    }

    private static void thiefOfTheFirstAndTheLastDay() {
        says("THIEF on DAYS 0 and 29");
        KeyOrchard x = orchardOf("kt02t12;029;129");
        x.rain(0, 2);
        x.rain(29, 2);
        x.reading(0, 0, false);
        due(x.thief(0), 1, "on DAY 0");
        due(x.thief(29), 0, "on DAY 29");
        x.back(1);
        x.reading(0, 29, true);
        due(x.thief(29), 3, "on DAY 29 the TERM comes");
        due(x.thief(30), UNKNOWN, "no DAY");
        due(x.thief(-1), UNKNOWN, "no DAY");
    }

    private static void thiefAsked() {
        says("THIEF: by what is told now");
        KeyOrchard x = threeAlone();
        x.reading(0, 1, false);
        due(x.thief(1), 1, "thief");
        x.rain(0, 0);
        due(x.thief(1), 7, "it is ripe later");
        x.frost(2, true);
        x.reading(0, 2, false);
        due(x.thief(2), 7, "and later still");
        due(x.many(2), 0, "no CROW comes by asking");
    }
}
