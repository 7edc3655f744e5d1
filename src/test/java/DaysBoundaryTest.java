/** DAYS ("Terms" 2, promises 5 to 14): RAIN, what is WATERED, FROSTS, CROWS, keys and TERMS at their bounds. */
public final class DaysBoundaryTest extends Checks {
    private DaysBoundaryTest() {
    }

    public static void main(String[] args) {
        firstAndLastDay();
        leastAndMostRain();
        eachTreeGetsRain();
        watered();
        wateredAnew();
        frosts();
        frostsStay();
        crowsAtWants();
        crowsOfSeveralKinds();
        crowsInFrost();
        crowsTogether();
        crowsAheadOfKeys();
        crowsOfOtherDays();
        crowsNumbers();
        shoos();
        asMuchAsItWants();
        moreThanItWants();
        felled();
        treesByNumbers();
        leastNumberFirst();
        locksThatFit();
        onePrisonerADay();
        noneForTheKey();
        termsComeLast();
        firstAndLastTerm();
        outByTermNeedsNoKey();
        allAreOutBehindTheLastDay();
        asMuchWaterAsThereMayBe();
        answersOfADayThatIsTold();
        end("the DAYS' bounds are as told");
    }

    private static void firstAndLastDay() {
        says("DAYS 0 .. 29");
        KeyOrchard x = orchardOf("kt03;029;129;029");
        due(x.rain(0, 3), 0, "rain of DAY 0");
        due(x.rain(29, 4), 0, "rain of DAY 29");
        due(x.out(0), 0, "out on DAY 0");
        due(x.by(0), 0, "by");
        due(x.out(2), 29, "out on DAY 29");
        due(x.by(2), 0, "by a key, ahead of the TERM");
        due(x.free(0), 1, "free on DAY 0");
        due(x.free(28), 1, "free on DAY 28");
        due(x.has(0, 28), 0, "has on DAY 28");
        due(x.rain(29, 2), 4, "rain of DAY 29 was");
        due(x.rain(28, 1), 0, "rain of DAY 28");
        due(x.by(2), 0, "by 1 and 2");
        due(x.rain(29, 1), 2, "rain of DAY 29 was");
        due(x.by(2), NONE, "by 1 and 1");
        due(x.has(0, 29), 2, "has on DAY 29");
        KeyOrchard y = orchardOf("kt03;029");
        due(y.water(29, 0), NONE, "water on DAY 29");
        due(y.by(0), 0, "by");
        due(y.frost(29, true), 1, "frost on DAY 29");
        due(y.by(0), NONE, "by");
        due(y.water(0, 0), NONE, "water on DAY 0");
        due(y.by(0), 0, "by");
        due(y.frost(0, true), 1, "frost on DAY 0");
        due(y.by(0), NONE, "by");
    }

    private static void leastAndMostRain() {
        says("RAIN (0 .. 9)");
        KeyOrchard x = orchardOf("ko09;029");
        due(x.rain(0, 9), 0, "9");
        due(x.has(0, 0), 9, "has");
        due(x.rain(0, 10), OUTSIDE, "10");
        due(x.rain(0, -1), OUTSIDE, "-1");
        due(x.has(0, 0), 9, "has");
        due(x.rain(0, 0), 9, "0");
        due(x.has(0, 0), 0, "has");
        due(x.rain(0, 1), 0, "1");
        due(x.rain(0, 8), 1, "8");
        due(x.has(0, 29), 8, "has");
    }

    private static void eachTreeGetsRain() {
        says("each TREE gets the RAIN of that DAY");
        KeyOrchard x = orchardOf("kt09g19o29t39g49o59;000");
        x.fell(5, true);
        x.rain(1, 4);
        x.rain(2, 3);
        for (int t = 0; t < 6; t++) {
            due(x.has(t, 0), 0, "has on DAY 0");
            due(x.has(t, 1), 4, "has on DAY 1");
            due(x.has(t, 2), 7, "has on DAY 2");
            due(x.has(t, 29), 7, "has on DAY 29");
        }
    }

    private static void watered() {
        says("the one that is WATERED 3 more");
        KeyOrchard x = rained("kt09t09t09;029", 2);
        due(x.water(0, 2), NONE, "water");
        due(x.has(0, 0), 2, "has, another");
        due(x.has(1, 0), 2, "has, another");
        due(x.has(2, 0), 5, "has, the one");
        due(x.has(2, 1), 5, "has, no more on other DAYS");
        due(x.water(1, 2), NONE, "water on the next DAY");
        due(x.has(2, 1), 8, "has");
        due(x.fell(2, true), 1, "fell");
        due(x.has(2, 1), 8, "has, one FELLED");
    }

    private static void wateredAnew() {
        says("which was; NONE");
        KeyOrchard x = orchardOf("kt09t09;029");
        due(x.water(4, NONE), NONE, "water");
        due(x.water(4, 0), NONE, "water");
        due(x.water(4, 0), 0, "water");
        due(x.water(4, 1), 0, "water");
        due(x.has(0, 4), 0, "one TREE a DAY");
        due(x.has(1, 4), 3, "one TREE a DAY");
        due(x.water(4, 2), UNKNOWN, "water");
        due(x.water(4, NONE), 1, "water");
        due(x.water(4, NONE), NONE, "water");
        due(x.has(1, 4), 0, "has");
    }

    private static void frosts() {
        says("but none anything in a FROST");
        KeyOrchard x = rained("kt19t19;029", 1, 5, 1);
        x.water(1, 1);
        due(x.has(1, 1), 9, "has without a FROST");
        due(x.frost(1, true), 1, "frost");
        due(x.has(0, 1), 1, "has: no RAIN");
        due(x.has(1, 1), 1, "has: nothing for the one that is WATERED");
        due(x.has(0, 2), 2, "has: RAIN on the next DAY");
        due(x.rain(1, 6), 5, "RAIN is told as it was");
        due(x.water(1, 0), 1, "what is WATERED is told as it was");
        due(x.has(0, 1), 1, "has");
        due(x.frost(1, false), 1, "frost");
        due(x.has(0, 1), 10, "has");
    }

    private static void frostsStay() {
        says("1; 0: it was so");
        KeyOrchard x = orchardOf("kt19;029");
        for (int day = 0; day < 30; day++) {
            due(x.frost(day, false), 0, "none yet");
            due(x.frost(day, true), 1, "a FROST");
            due(x.frost(day, true), 0, "a FROST again");
        }
        rainDaily(x, 9);
        due(x.has(0, 29), 0, "has");
        due(x.frost(30, false), UNKNOWN, "no DAY");
        due(x.frost(0, false), 1, "DAY 0");
        due(x.frost(0, false), 0, "DAY 0 again");
        due(x.frost(29, false), 1, "DAY 29");
        due(x.has(0, 28), 9, "has");
        due(x.has(0, 29), 18, "has");
    }

    private static void crowsAtWants() {
        says("CROWS: water becomes 0, if it has as much as it WANTS, or more");
        int[] rain = {3, 4, 5};
        int[] left = {3, 0, 0};
        for (int i = 0; i < 3; i++) {
            KeyOrchard x = rained("kt14;029", rain[i]);
            due(x.crow(0, 0), 0, "crow");
            due(x.has(0, 0), left[i], "has by RAIN " + rain[i]);
        }
    }

    private static void crowsOfSeveralKinds() {
        says("CROWS: as much as a GRAFTED, an OLD one WANTS");
        KeyOrchard x = rained("kt14g14o31;029", 4);
        x.fell(2, true);
        for (int t = 0; t < 3; t++) {
            x.crow(0, t);
        }
        due(x.has(0, 0), 0, "a TREE at 4 of 4");
        due(x.has(1, 0), 4, "a GRAFTED one at 4 of 5");
        due(x.has(2, 0), 0, "an OLD one, FELLED, at 4 of 4");
        x.rain(0, 3);
        due(x.has(2, 0), 3, "an OLD one at 3 of 4");
        x.rain(0, 5);
        due(x.has(1, 0), 0, "a GRAFTED one at 5 of 5");
    }

    private static void crowsInFrost() {
        says("CROWS come in a FROST, and without RAIN, too");
        KeyOrchard x = rained("kt14;029", 5);
        x.frost(3, true);
        x.crow(3, 0);
        due(x.has(0, 2), 5, "has");
        due(x.has(0, 3), 0, "has in the FROST");
        x.frost(3, false);
        due(x.has(0, 3), 0, "has on a dry DAY");
        due(x.has(0, 29), 0, "has");
    }

    private static void crowsTogether() {
        says("CROWS of that DAY: each its TREE");
        KeyOrchard x = rained("kt12t12t12;029", 2);
        x.crow(0, 0);
        x.crow(0, 2);
        x.crow(0, 0);
        due(x.has(0, 0), 0, "two CROWS");
        due(x.has(1, 0), 2, "no CROW");
        due(x.has(2, 0), 0, "one CROW");
        due(x.shoo(1), 2, "the last is gone");
        due(x.has(0, 0), 0, "one CROW is left");
        due(x.shoo(1), 1, "the last is gone");
        due(x.has(2, 0), 2, "none is left");
        due(x.has(0, 0), 0, "one CROW is left");
    }

    private static void crowsAheadOfKeys() {
        says("in order: water, CROWS, keys, TERMS");
        KeyOrchard x = rained("kt03;001;029", 3, 2, 1);
        x.crow(0, 0);
        due(x.out(0), 1, "the CROW comes ahead of the key; the TERM comes");
        due(x.by(0), NONE, "by");
        due(x.out(1), 2, "by 2 and 1");
        due(x.by(1), 0, "by");
        due(x.has(0, 1), 2, "has");
        x.crow(1, 0);
        due(x.has(0, 1), 2, "a CROW finds nothing at 2 of 3");
        x.crow(2, 0);
        due(x.out(1), 29, "the CROW takes all");
        due(x.by(1), NONE, "by");
        due(x.has(0, 2), 0, "has");
    }

    private static void crowsOfOtherDays() {
        says("CROWS of that DAY");
        KeyOrchard x = rained("kt03;029;029", 3, 3);
        x.crow(2, 0);
        due(x.out(0), 0, "out ahead of it");
        due(x.out(1), 1, "out ahead of it");
        x.crow(1, 0);
        due(x.out(0), 0, "out ahead of it");
        due(x.out(1), 29, "out by the TERM");
    }

    private static void crowsNumbers() {
        says("6 at most, numbered by how many there are ahead (the first one is 0)");
        KeyOrchard x = orchardOf("kt03;029");
        int[] days = {0, 29, 0, 5, 29, 1};
        for (int c = 0; c < 6; c++) {
            due(x.many(2), c, "many");
            due(x.crow(days[c], 0), c, "crow");
        }
        due(x.crow(7, 0), FULL, "a seventh");
        due(x.many(2), 6, "many");
        due(x.shoo(1), 5, "shoo");
        due(x.crow(7, 0), 5, "a sixth again");
        due(x.crow(7, 0), FULL, "a seventh");
    }

    private static void shoos() {
        says("the last k CROWS (0 .. as many as there are) are gone");
        KeyOrchard x = rained("kt12;029", 2, 2, 2, 2, 2, 2);
        for (int c = 0; c < 6; c++) {
            x.crow(c, 0);
        }
        due(x.has(0, 5), 0, "has");
        due(x.shoo(7), OUTSIDE, "one more than there are");
        due(x.shoo(-1), OUTSIDE, "below 0");
        due(x.shoo(0), 6, "none");
        due(x.has(0, 5), 0, "has");
        due(x.shoo(2), 4, "two");
        due(x.has(0, 3), 0, "has");
        due(x.has(0, 5), 4, "has");
        due(x.shoo(5), OUTSIDE, "one more than there are");
        due(x.shoo(4), 0, "all");
        due(x.has(0, 5), 12, "has");
        due(x.shoo(1), OUTSIDE, "one more than there are");
        due(x.shoo(0), 0, "none");
    }

    private static void asMuchAsItWants() {
        says("has as much as it WANTS, or more");
        String[] texts = {"kt04;029", "kg04;029", "ko04;029"};
        int[] wants = {4, 5, 10};
        for (int i = 0; i < 3; i++) {
            KeyOrchard x = rained(texts[i], 1, wants[i] - 2, 1);
            due(x.has(0, 1), wants[i] - 1, "1 less");
            due(x.out(0), 2, "out");
            due(x.by(0), 0, "by");
            due(x.has(0, 2), 0, "its water becomes 0");
        }
    }

    private static void moreThanItWants() {
        says("its water becomes 0");
        KeyOrchard x = rained("kt03;029;029", 9, 2);
        due(x.has(0, 0), 0, "what is more is gone");
        due(x.out(1), 29, "out");
        due(x.has(0, 29), 2, "has");
        x.rain(1, 3);
        due(x.out(1), 1, "out");
        due(x.has(0, 1), 0, "has");
    }

    private static void felled() {
        says("each TREE that is not FELLED");
        KeyOrchard x = rained("kt03;029", 3, 0, 1);
        due(x.fell(0, false), 0, "it was so");
        due(x.fell(0, true), 1, "fell");
        due(x.fell(0, true), 0, "it was so");
        due(x.by(0), NONE, "by");
        due(x.out(0), 29, "out");
        due(x.has(0, 29), 4, "its water stays");
        due(x.ofTree(0, 5), 1, "FELLED");
        due(x.fell(0, false), 1, "it stands");
        due(x.by(0), 0, "by");
        due(x.out(0), 0, "out");
        due(x.ofTree(0, 5), 0, "FELLED");
    }

    private static void treesByNumbers() {
        says("each TREE by numbers");
        KeyOrchard x = rained("kt04o01g03;029;029;029;029", 4);
        for (int p = 0; p < 3; p++) {
            due(x.by(p), p, "by");
            due(x.out(p), 0, "out");
        }
        due(x.by(3), NONE, "by");
        x.fell(0, true);
        due(x.by(0), 1, "by the next");
        due(x.by(1), 2, "by the next");
        due(x.by(2), NONE, "by none");
    }

    private static void leastNumberFirst() {
        says("of the PRISONERS that are in, whose LOCK its key OPENS, the one of the least number");
        KeyOrchard x = rained("kt21o01;529;229;029;229", 4, 4);
        due(x.by(1), 0, "the first one of LOCK 2");
        due(x.by(0), 1, "the first one of all");
        due(x.out(0), 0, "out");
        due(x.by(3), 0, "the next one of LOCK 2");
        due(x.out(3), 1, "out");
        due(x.by(2), 1, "the next one of all that are in");
        due(x.out(2), 1, "out");
    }

    private static void locksThatFit() {
        says("whose LOCK its key OPENS");
        for (int own = 0; own < 6; own++) {
            for (int lock = 0; lock < 6; lock++) {
                boolean isNext = lock == (own + 1) % 6;
                due(rained("kt" + own + "1;" + lock + "29", 9).by(0), own == lock ? 0 : NONE, "a TREE's");
                due(rained("kg" + own + "1;" + lock + "29", 9).by(0), own == lock || isNext ? 0 : NONE, "GRAFTED");
                due(rained("ko" + own + "1;" + lock + "29", 9).by(0), 0, "an OLD one's");
            }
        }
    }

    private static void onePrisonerADay() {
        says("the one of the least number is OUT");
        KeyOrchard x = orchardOf("kt01;029;029;029");
        rainDaily(x, 9);
        for (int p = 0; p < 3; p++) {
            due(x.out(p), p, "one a DAY");
        }
        due(x.has(0, 2), 0, "has");
        due(x.has(0, 3), 9, "no one is left");
    }

    private static void noneForTheKey() {
        says("if there is none, it stays so");
        KeyOrchard x = rained("kt03t13;029;010", 9, 0, 1);
        due(x.has(1, 0), 9, "no one of its LOCK");
        due(x.has(1, 2), 10, "it grows on");
        due(x.has(0, 0), 0, "the key is used");
        due(x.out(1), 10, "out by the TERM");
        x.rain(3, 9);
        due(x.out(1), 3, "out by a key");
        x.rain(4, 3);
        due(x.has(0, 4), 3, "no one is left");
        due(x.has(0, 29), 3, "no one is left");
    }

    private static void termsComeLast() {
        says("last, those whose TERM is that DAY are OUT, if they are in");
        KeyOrchard x = rained("kt03;005;005;006", 0, 0, 0, 0, 0, 3, 3);
        due(x.out(0), 5, "out");
        due(x.by(0), 0, "a key ahead of the TERM");
        due(x.out(1), 5, "out");
        due(x.by(1), NONE, "by the TERM");
        due(x.out(2), 6, "out");
        due(x.by(2), 0, "a key ahead of the TERM");
        due(x.free(4), 0, "free");
        due(x.free(5), 3, "free at the end of the DAY");
        x.rain(5, 2);
        due(x.by(0), NONE, "by the TERM");
        due(x.by(2), 0, "by a key");
    }

    private static void firstAndLastTerm() {
        says("TERM, a DAY");
        KeyOrchard x = orchardOf("kt03;000;029");
        due(x.free(0), 1, "free");
        due(x.free(28), 1, "free");
        due(x.free(29), 3, "free");
        due(x.out(0), 0, "out");
        due(x.out(1), 29, "out");
        due(x.by(0), NONE, "by");
        due(x.by(1), NONE, "by");
        x.rain(0, 3);
        x.rain(29, 3);
        due(x.by(0), 0, "by a key on DAY 0");
        due(x.by(1), 0, "by a key on DAY 29");
        due(x.has(0, 29), 0, "has");
    }

    private static void outByTermNeedsNoKey() {
        says("of the PRISONERS that are in");
        KeyOrchard x = rained("kt03;001;029", 0, 0, 3, 3);
        due(x.out(0), 1, "out by the TERM");
        due(x.out(1), 2, "the first key is the next one's");
        due(x.has(0, 3), 3, "no one is left");
        due(x.out(0), 1, "OUT once only");
        due(x.by(0), NONE, "by");
    }

    private static void allAreOutBehindTheLastDay() {
        says("behind DAY 29 all are");
        KeyOrchard x = orchardOf("kt09;029;129;229;329;429;529");
        due(x.free(28), 0, "free");
        due(x.free(29), 63, "free");
        for (int p = 0; p < 6; p++) {
            due(x.out(p), 29, "out");
            due(x.by(p), NONE, "by");
        }
    }

    private static void asMuchWaterAsThereMayBe() {
        says("what water a TREE has at the end of a DAY");
        KeyOrchard x = orchardOf("kt09t01;129");
        rainDaily(x, 9);
        for (int day = 0; day < 30; day++) {
            x.water(day, 0);
        }
        for (int day = 0; day < 30; day++) {
            due(x.has(0, day), 12 * (day + 1), "has on DAY " + day);
            due(x.has(1, day), 9 * (day + 1), "has on DAY " + day);
        }
    }

    private static void answersOfADayThatIsTold() {
        says("the DAYS pass by what is told now");
        KeyOrchard x = rained("kt03;029", 3);
        due(x.out(0), 0, "out");
        x.rain(0, 2);
        due(x.out(0), 29, "out");
        x.rain(9, 1);
        due(x.out(0), 9, "out");
        due(x.has(0, 8), 2, "has on a DAY ahead");
        due(x.free(8), 0, "free on a DAY ahead");
        due(x.out(0), 9, "out");
        due(x.by(0), 0, "by");
    }
}
