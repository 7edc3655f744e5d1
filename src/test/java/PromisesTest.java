/** Each promise by itself: ordinary calls, the edges that the document names, wrong calls. */
public final class PromisesTest extends Checks {
    private PromisesTest() {
    }

    public static void main(String[] args) {
        theConstants();
        newObject();
        orchard();
        orchardFaults();
        orchardMakesAllAnew();
        ofTree();
        ofPrisoner();
        rain();
        water();
        frost();
        crow();
        shoo();
        fell();
        out();
        by();
        free();
        has();
        orderOfADay();
        aFullOrchard();
        termsOfTheOneAhead();
        least();
        most();
        saws();
        worth();
        odds();
        green();
        reading();
        back();
        thief();
        sheet();
        lose();
        put();
        cell();
        copy();
        tell();
        shake();
        as();
        trace();
        fault();
        many();
        end("all promises are kept");
    }

    private static void theConstants() {
        says("the public face");
        due(KeyOrchard.UNKNOWN, UNKNOWN, "UNKNOWN");
        due(KeyOrchard.OUTSIDE, OUTSIDE, "OUTSIDE");
        due(KeyOrchard.STATE, STATE, "STATE");
        due(KeyOrchard.FULL, FULL, "FULL");
        due(KeyOrchard.NONE, NONE, "NONE");
        due(KeyOrchard.LOST, LOST, "LOST");
    }

    private static void newObject() {
        says("promise 1");
        KeyOrchard x = new KeyOrchard();
        for (int what = 0; what < 4; what++) {
            due(x.many(what), 0, "many");
        }
        due(x.fault(), 0, "fault");
        due(x.trace(), 0, "trace");
        for (int k = 0; k < 4; k++) {
            due(x.lose(k), 0, "lose");
            due(x.put(k, 0, 1), NULL, "put into nothing");
        }
        due(x.out(0), UNKNOWN, "out");
        due(x.free(0), STATE, "free");
        due(x.free(30), UNKNOWN, "free of no DAY");
        due(x.most(0, 0, -1), STATE, "most");
        due(x.green(0, -1), STATE, "green");
        due(x.thief(0), STATE, "thief");
        due(x.odds(0, 0, 0), LOST, "odds");
    }

    private static void orchard() {
        says("promise 2");
        KeyOrchard x = new KeyOrchard();
        due(plant(x, "kt03;010"), 1, "one TREE, one PRISONER");
        due(plant(x, "kt03g14o25t39g45o51;000;129;215;309;420;501"), 6, "the longest TEXT");
        due(x.many(1), 6, "many");
        String[] broken = {"", "x", "K", "k", "kx", "k;010", "kt", "kt6", "kt0", "kt00", "kt0:", "kt03", "kt03x",
            "kt03;", "kt03;6", "kt03;0", "kt03;03", "kt03;00", "kt03;00:", "kt03;010x", "kt03;010t", "kt03;010;",
            "kt01t01t01t01t01t01t01;010", "kt03;010;010;010;010;010;010;010", "kt03k", "kt/3", "kt03;010;01"};
        int[] places = {0, 0, 0, 1, 1, 1, 2, 2, 3, 3, 3, 4, 4,
            5, 5, 6, 6, 7, 7, 8, 8, 9,
            19, 28, 4, 2, 11};
        for (int i = 0; i < broken.length; i++) {
            KeyOrchard y = orchardOf("kt03g14;010");
            y.fell(1, true);
            due(plant(y, broken[i]), -100 - places[i], "orchard of " + broken[i]);
            due(y.fault(), 0, "fault of a TEXT that is none");
            due(y.many(0), 2, "many after a TEXT that was not taken");
            due(y.ofTree(1, 5), 1, "FELLED after a TEXT that was not taken");
        }
        write(x, 1, 1, "xxkg25o11;129yy");
        due(x.orchard(1, 1, 2, 11), 2, "a part of a row of shorts");
        due(x.ofTree(0, 1), 2, "its first LOCK");
        due(x.orchard(1, 1, 2, 12), -100 - 11, "a code too many");
        x.put(1, 2, 'k' + 256);
        due(x.orchard(1, 1, 2, 11), -100, "a short is no byte");
        x.sheet(2, 2, 8);
        for (int i = 0; i < 8; i++) {
            x.put(2, i, "ko91;001".charAt(i));
        }
        due(x.orchard(2, 2, 0, 8), -102, "LOCK 9");
        x.put(2, 2, '5');
        due(x.orchard(2, 2, 0, 8), 1, "a row of ints");
        x.put(2, 0, LEAST);
        due(x.orchard(2, 2, 0, 8), -100, "a strange code");
        x.put(2, 0, 'k');
        x.put(2, 3, LEAST);
        due(x.orchard(2, 2, 0, 8), -103, "a strange digit");
    }

    private static void orchardFaults() {
        KeyOrchard x = new KeyOrchard();
        write(x, 0, 0, "kt03;010");
        due(x.orchard(-1, 3, 0, -1), UNKNOWN, "no SHEET");
        due(x.orchard(4, 0, 0, 8), UNKNOWN, "no SHEET");
        due(x.orchard(0, -1, 0, -1), OUTSIDE, "no LANE");
        due(x.orchard(0, 3, 0, 8), OUTSIDE, "no LANE");
        due(x.orchard(0, 1, 0, -1), CAST, "another LANE");
        due(x.fault(), 2, "fault");
        due(x.orchard(1, 1, 0, -1), NULL, "nothing is no CAST");
        due(x.fault(), 1, "fault");
        due(x.orchard(0, 0, 9, -1), SIZE, "a length below 0");
        due(x.fault(), 4, "fault");
        due(x.orchard(0, 0, 0, 9), INDEX, "a cell too many");
        due(x.orchard(0, 0, 1, 8), INDEX, "a cell too many");
        due(x.orchard(0, 0, -1, 8), INDEX, "a cell ahead");
        due(x.orchard(0, 0, 9, 0), INDEX, "no cells, too far");
        due(x.orchard(0, 0, -1, 0), INDEX, "no cells, ahead");
        due(x.orchard(0, 0, MOST, MOST), INDEX, "far too far");
        due(x.orchard(0, 0, 1, MOST), INDEX, "far too many");
        due(x.fault(), 3, "fault");
        due(x.orchard(0, 0, 8, 0), -100, "no cells at the end");
        due(x.fault(), 0, "fault");
        due(x.many(0), 0, "many");
        due(x.orchard(0, 0, 0, 8), 1, "the TEXT");
    }

    private static void orchardMakesAllAnew() {
        KeyOrchard x = orchardOf("kt03g14;029;112");
        x.rain(3, 4);
        x.water(5, 1);
        x.frost(6, true);
        x.crow(7, 0);
        x.fell(1, true);
        x.reading(0, 5, true);
        x.tell(0);
        due(plant(x, "kt0"), -103, "a TEXT that is none");
        due(x.many(2) + x.many(3), 2, "CROWS and READINGS stay");
        due(x.ofTree(1, 5), 1, "FELLED stays");
        due(plant(x, "kt03g14;029;112"), 2, "the same TEXT");
        due(x.many(2) + x.many(3), 0, "CROWS and READINGS");
        due(x.ofTree(1, 5), 0, "FELLED");
        due(x.rain(3, 0), 0, "RAIN");
        due(x.water(5, NONE), NONE, "WATERED");
        due(x.frost(6, false), 0, "FROST");
        due(x.trace(), 1, "TRACE stays");
        due(x.cell(0, 0, 0), 'k', "SHEETS stay");
        x.put(0, 1, 'o');
        due(x.ofTree(0, 0), 0, "the ORCHARD is not the SHEET");
    }

    private static void ofTree() {
        says("promise 3");
        KeyOrchard x = orchardOf("kt03g54o25;029");
        int[][] all = {{0, 0, 3, 3, 1, 0}, {1, 5, 4, 5, 33, 0}, {2, 2, 5, 12, 63, 0}};
        for (int t = 0; t < 3; t++) {
            for (int what = 0; what < 6; what++) {
                due(x.ofTree(t, what), all[t][what], "ofTree " + t + " " + what);
            }
        }
        due(x.ofTree(0, -1), OUTSIDE, "ofTree");
        due(x.ofTree(0, 6), OUTSIDE, "ofTree");
        due(x.ofTree(3, 6), UNKNOWN, "ofTree");
        due(x.ofTree(-1, 0), UNKNOWN, "ofTree");
        x.fell(2, true);
        due(x.ofTree(2, 5), 1, "ofTree of one FELLED");
        due(x.ofTree(1, 5), 0, "ofTree of one that stands");
    }

    private static void ofPrisoner() {
        says("promise 4");
        KeyOrchard x = orchardOf("kt03;029;512");
        due(x.ofPrisoner(0, 0), 0, "LOCK");
        due(x.ofPrisoner(0, 1), 29, "TERM");
        due(x.ofPrisoner(1, 0), 5, "LOCK");
        due(x.ofPrisoner(1, 1), 12, "TERM");
        due(x.ofPrisoner(1, 2), OUTSIDE, "ofPrisoner");
        due(x.ofPrisoner(1, -1), OUTSIDE, "ofPrisoner");
        due(x.ofPrisoner(2, 2), UNKNOWN, "ofPrisoner");
        due(x.ofPrisoner(-1, 0), UNKNOWN, "ofPrisoner");
    }

    private static void rain() {
        says("promise 5");
        KeyOrchard x = new KeyOrchard();
        due(x.rain(30, 10), UNKNOWN, "rain");
        due(x.rain(0, 10), OUTSIDE, "rain");
        due(x.rain(0, 9), STATE, "rain");
        plant(x, "kt03;029");
        due(x.rain(0, 9), 0, "rain");
        due(x.rain(0, 10), OUTSIDE, "rain");
        due(x.rain(0, -1), OUTSIDE, "rain");
        due(x.rain(0, 2), 9, "rain");
        due(x.rain(29, 1), 0, "rain");
        due(x.rain(-1, 0), UNKNOWN, "rain");
        due(x.rain(30, 0), UNKNOWN, "rain");
        due(x.has(0, 0), 2, "has");
    }

    private static void water() {
        says("promise 6");
        KeyOrchard x = new KeyOrchard();
        due(x.water(0, 0), UNKNOWN, "water");
        due(x.water(30, NONE), UNKNOWN, "water");
        due(x.water(0, NONE), STATE, "water");
        plant(x, "kt09t09;029");
        due(x.water(0, 1), NONE, "water");
        due(x.has(1, 0), 3, "has");
        due(x.has(0, 0), 0, "has");
        due(x.water(0, 0), 1, "water");
        due(x.has(1, 0), 0, "has");
        due(x.water(0, 2), UNKNOWN, "water");
        due(x.water(0, -1), UNKNOWN, "water");
        due(x.water(-1, 0), UNKNOWN, "water");
        due(x.water(30, 0), UNKNOWN, "water");
        due(x.water(0, NONE), 0, "water");
        due(x.water(0, NONE), NONE, "water");
        due(x.has(0, 29), 0, "has");
    }

    private static void frost() {
        says("promise 7");
        KeyOrchard x = new KeyOrchard();
        due(x.frost(30, true), UNKNOWN, "frost");
        due(x.frost(0, false), STATE, "frost");
        plant(x, "kt09;029");
        x.rain(29, 4);
        x.water(29, 0);
        due(x.has(0, 29), 7, "has");
        due(x.frost(29, true), 1, "frost");
        due(x.frost(29, true), 0, "frost");
        due(x.has(0, 29), 0, "has: neither RAIN nor what is WATERED");
        due(x.frost(29, false), 1, "frost");
        due(x.frost(29, false), 0, "frost");
        due(x.frost(0, false), 0, "frost");
        due(x.frost(-1, true), UNKNOWN, "frost");
        due(x.has(0, 29), 7, "has");
    }

    private static void crow() {
        says("promise 8");
        KeyOrchard x = new KeyOrchard();
        due(x.crow(0, 0), UNKNOWN, "crow");
        plant(x, "kt13;029");
        due(x.crow(30, 0), UNKNOWN, "crow");
        due(x.crow(-1, 0), UNKNOWN, "crow");
        due(x.crow(0, 1), UNKNOWN, "crow");
        due(x.crow(0, -1), UNKNOWN, "crow");
        x.rain(0, 2);
        x.rain(1, 1);
        due(x.crow(0, 0), 0, "crow");
        due(x.has(0, 0), 2, "a CROW takes no water ahead of its time");
        due(x.has(0, 1), 3, "has");
        due(x.crow(1, 0), 1, "crow");
        due(x.has(0, 1), 0, "a CROW at as much as it WANTS");
        for (int k = 2; k < 6; k++) {
            due(x.crow(29, 0), k, "crow");
        }
        due(x.crow(5, 0), FULL, "crow");
        due(x.crow(30, 0), UNKNOWN, "crow");
        due(x.many(2), 6, "many");
    }

    private static void shoo() {
        says("promise 9");
        KeyOrchard x = new KeyOrchard();
        due(x.shoo(0), 0, "shoo");
        due(x.shoo(1), OUTSIDE, "shoo");
        plant(x, "kt13;029");
        x.rain(0, 3);
        x.rain(1, 3);
        x.crow(0, 0);
        x.crow(1, 0);
        due(x.shoo(3), OUTSIDE, "shoo");
        due(x.shoo(-1), OUTSIDE, "shoo");
        due(x.shoo(LEAST), OUTSIDE, "shoo");
        due(x.shoo(0), 2, "shoo");
        due(x.has(0, 1), 0, "has");
        due(x.shoo(1), 1, "shoo: the last is gone");
        due(x.has(0, 0), 0, "has");
        due(x.has(0, 1), 3, "has");
        due(x.crow(2, 0), 1, "crow");
        due(x.shoo(2), 0, "shoo");
        due(x.has(0, 1), 6, "has");
    }

    private static void fell() {
        says("promise 10");
        KeyOrchard x = new KeyOrchard();
        due(x.fell(0, true), UNKNOWN, "fell");
        plant(x, "kt03t03;029");
        x.rain(2, 3);
        due(x.by(0), 0, "by");
        due(x.fell(0, true), 1, "fell");
        due(x.fell(0, true), 0, "fell");
        due(x.by(0), 1, "by");
        due(x.has(0, 2), 3, "one FELLED has water, too");
        due(x.fell(0, false), 1, "fell");
        due(x.fell(0, false), 0, "fell");
        due(x.by(0), 0, "by");
        due(x.fell(2, true), UNKNOWN, "fell");
        due(x.fell(-1, true), UNKNOWN, "fell");
    }

    private static void out() {
        says("promise 11");
        KeyOrchard x = orchardOf("kt03;029;029;112");
        due(x.out(0), 29, "out by TERM");
        due(x.out(2), 12, "out by TERM");
        x.rain(4, 3);
        x.rain(6, 9);
        due(x.out(0), 4, "the least number first");
        due(x.out(1), 6, "out");
        due(x.out(2), 12, "another LOCK");
        due(x.out(3), UNKNOWN, "out");
        due(x.out(-1), UNKNOWN, "out");
    }

    private static void by() {
        says("promise 12");
        KeyOrchard x = orchardOf("kt03t03g52;005;005;029");
        due(x.by(0), NONE, "by TERM");
        x.rain(5, 3);
        due(x.by(0), 0, "the key comes ahead of the TERM");
        due(x.by(1), 1, "by");
        due(x.by(2), 2, "a GRAFTED one of LOCK 5 OPENS 0");
        x.rain(5, 2);
        x.rain(6, 1);
        due(x.by(0), NONE, "by TERM");
        due(x.by(2), 0, "by");
        due(x.by(3), UNKNOWN, "by");
        due(x.by(-1), UNKNOWN, "by");
    }

    private static void free() {
        says("promise 13");
        KeyOrchard x = orchardOf("kt03;003;029;510");
        x.rain(7, 5);
        due(x.free(2), 0, "free");
        due(x.free(3), 1, "free by TERM");
        due(x.free(7), 3, "free by a TREE");
        due(x.free(9), 3, "free");
        due(x.free(10), 7, "free");
        due(x.free(29), 7, "free");
        due(x.free(30), UNKNOWN, "free");
        due(x.free(-1), UNKNOWN, "free");
    }

    private static void has() {
        says("promise 14");
        KeyOrchard x = orchardOf("kt03t53;020");
        rainDaily(x, 1);
        due(x.has(0, 0), 1, "has");
        due(x.has(0, 1), 2, "has");
        due(x.has(0, 2), 0, "has, the key is used");
        due(x.has(0, 29), 27, "has, no one for the key");
        due(x.has(1, 29), 30, "has, no one for the key");
        due(x.has(2, 0), UNKNOWN, "has");
        due(x.has(-1, 0), UNKNOWN, "has");
        due(x.has(0, 30), UNKNOWN, "has");
        due(x.has(0, -1), UNKNOWN, "has");
    }

    private static void orderOfADay() {
        KeyOrchard x = orchardOf("kt03o01;029;129");
        x.rain(0, 4);
        due(x.by(0), 0, "TREES by numbers");
        due(x.by(1), 1, "the next TREE, the next PRISONER");
        x.crow(0, 0);
        due(x.by(0), 1, "CROWS come ahead of keys");
        due(x.out(1), 29, "out");
        x.fell(0, true);
        x.crow(0, 1);
        due(x.out(0), 29, "out");
        KeyOrchard y = orchardOf("kt01;029;029;029");
        y.rain(0, 9);
        due(y.free(1), 1, "one key a DAY, and no water is left");
        y.water(1, 0);
        due(y.free(1), 3, "free");
        KeyOrchard z = orchardOf("kt02;129;029");
        z.rain(0, 1);
        z.frost(1, true);
        z.rain(1, 5);
        z.rain(2, 1);
        due(z.out(1), 2, "a FROST keeps what there was");
    }

    private static void aFullOrchard() {
        KeyOrchard x = orchardOf("kt01t11t21t31t41t51;500;401;302;229;129;029");
        due(x.free(29), 63, "all behind DAY 29");
        x.rain(1, 1);
        int[] days = {0, 1, 1, 1, 1, 1};
        int[] trees = {NONE, 4, 3, 2, 1, 0};
        for (int p = 0; p < 6; p++) {
            due(x.out(p), days[p], "out");
            due(x.by(p), trees[p], "by");
            due(x.has(p, 1), p == 5 ? 1 : 0, "has");
        }
        due(x.free(0), 1, "free");
        due(x.free(1), 63, "free");
        due(x.most(29, 4, -1), 6, "most");
        due(x.most(29, 4, 0), 5, "row");
        due(x.worth(5), 10000, "worth");
        due(x.worth(0), 10028, "worth");
        due(x.saws(5, 29), 1, "saws");
        due(x.thief(1), 63, "thief");
        due(x.tell(5) + x.shake(5), 6, "the last TREE");
    }

    private static void termsOfTheOneAhead() {
        KeyOrchard x = orchardOf("kt01;003;004");
        due(plant(x, "kt01;029;128"), 1, "another TEXT");
        due(x.out(0), 29, "its own TERM");
        due(x.out(1), 28, "its own TERM");
    }

    private static void least() {
        says("promise 15");
        KeyOrchard x = orchardOf("kt09t07g45;029;120;029;529");
        due(x.least(0, 29, -1), 3, "least");
        due(x.least(0, 29, 0), 0, "the row");
        due(x.least(0, 29, 2), 0, "the row");
        due(x.least(0, 29, 3), NONE, "fewer");
        due(x.least(0, 1, -1), NONE, "not in time");
        due(x.least(0, 1, 0), NONE, "not in time");
        due(x.least(0, 2, -1), 3, "on that DAY");
        due(x.least(1, 29, -1), NONE, "no key");
        due(x.least(2, 29, -1), NONE, "4 WATERINGS are too few for two");
        x.rain(3, 4);
        due(x.least(2, 29, -1), 3, "the first row of the fewest");
        due(x.least(2, 29, 0), 0, "row");
        due(x.least(2, 29, 1), 0, "row");
        due(x.least(2, 29, 2), 1, "row");
        due(x.least(2, 29, MOST), NONE, "fewer");
        due(x.least(3, 29, -1), 1, "least");
        x.water(0, 2);
        x.water(9, 2);
        due(x.out(3), 3, "out by what is WATERED");
        due(x.least(3, 29, -1), 1, "in place of all that are, none on other DAYS");
        due(x.water(9, 2), 2, "what is WATERED stays");
        x.frost(0, true);
        due(x.least(0, 29, -1), 2, "least with a FROST");
        due(x.least(0, 29, 0), 0, "row with a FROST");
        due(x.least(0, 29, 1), 1, "row with a FROST");
        due(x.least(4, 0, 0), UNKNOWN, "least");
        due(x.least(-1, 0, 0), UNKNOWN, "least");
        due(x.least(0, 30, 0), UNKNOWN, "least");
        due(x.least(0, -1, 0), UNKNOWN, "least");
        due(x.least(0, 0, -2), UNKNOWN, "least");
        due(x.least(0, 0, LEAST), UNKNOWN, "least");
        KeyOrchard y = orchardOf("kt01;001");
        y.rain(2, 1);
        due(y.least(0, 29, -1), 1, "a TERM is no TREE");
        y.rain(1, 1);
        due(y.least(0, 29, -1), 0, "none are needed");
        due(y.least(0, 29, 0), NONE, "fewer");
        y.fell(0, true);
        due(y.least(0, 29, -1), NONE, "FELLED");
        KeyOrchard four = orchardOf("kt19g19t09;029;129");
        four.rain(29, 1);
        due(four.least(1, 29, -1), 3, "least");
        four.fell(0, true);
        due(four.least(1, 29, -1), 3, "GRAFTED: 1 of RAIN and 9");
        due(four.least(1, 28, -1), 4, "4 are the most");
        due(four.least(1, 28, 3), 1, "row");
    }

    private static void most() {
        says("promise 16");
        KeyOrchard x = orchardOf("kt03t13;029;029;129;529");
        due(x.most(29, 0, -1), 0, "most");
        due(x.most(29, 0, 0), NONE, "fewer");
        due(x.most(29, 1, -1), 1, "most");
        due(x.most(29, 1, 0), 0, "the first row");
        due(x.most(29, 3, -1), 3, "most");
        due(x.most(29, 3, 0), 0, "row");
        due(x.most(29, 3, 1), 0, "row");
        due(x.most(29, 3, 2), 1, "row");
        due(x.most(29, 3, 3), NONE, "fewer");
        due(x.most(29, 4, -1), 3, "most");
        due(x.most(29, 4, 1), 0, "row");
        due(x.most(29, 4, 2), 0, "row");
        due(x.most(29, 4, 3), 1, "row");
        due(x.most(1, 4, -1), 2, "by a DAY");
        due(x.most(1, 4, 3), 0, "row beyond the DAY");
        due(x.most(1, 4, 4), NONE, "fewer");
        x.water(0, 1);
        x.water(5, 1);
        due(x.most(29, 1, -1), 1, "in place of all that are");
        due(x.water(5, 1), 1, "what is WATERED stays");
        due(x.most(0, 5, 0), OUTSIDE, "most");
        due(x.most(0, -1, 0), OUTSIDE, "most");
        due(x.most(30, 5, 0), UNKNOWN, "most");
        due(x.most(-1, 0, 0), UNKNOWN, "most");
        due(x.most(0, 5, -2), UNKNOWN, "most");
        KeyOrchard y = new KeyOrchard();
        due(y.most(0, 5, 0), OUTSIDE, "most");
        due(y.most(0, 4, -2), UNKNOWN, "most");
        due(y.most(0, 4, 0), STATE, "most");
        KeyOrchard z = orchardOf("kt03;029;029");
        z.rain(0, 9);
        z.rain(1, 9);
        z.out(0);
        z.rain(1, 0);
        due(z.most(29, 0, -1), 1, "by what is told now");
    }

    private static void saws() {
        says("promise 17");
        KeyOrchard x = orchardOf("kt03t03g02t13;029;129");
        rainDaily(x, 3);
        due(x.saws(0, 0), 7, "saws");
        due(x.saws(1, 0), 12, "saws: with 2 or 3 it is OUT");
        due(x.saws(1, 29), 12, "saws");
        x.fell(3, true);
        due(x.saws(1, 29), 4, "more than are");
        x.fell(2, true);
        due(x.saws(1, 29), 0, "none are needed");
        due(x.ofTree(0, 5), 0, "no TREE is FELLED by asking");
        due(x.saws(2, 0), UNKNOWN, "saws");
        due(x.saws(-1, 0), UNKNOWN, "saws");
        due(x.saws(0, 30), UNKNOWN, "saws");
        due(x.saws(0, -1), UNKNOWN, "saws");
        KeyOrchard y = orchardOf("kt01t01;029;029");
        y.rain(4, 1);
        due(y.saws(1, 29), 1, "of several sets the least");
        due(y.saws(1, 3), 0, "not by that DAY");
        KeyOrchard z = orchardOf("kt01;003");
        z.rain(4, 1);
        due(z.saws(0, 29), 0, "a TERM is no TREE");
    }

    private static void worth() {
        says("promise 18");
        KeyOrchard x = orchardOf("kt03t02;029;029");
        x.rain(1, 3);
        x.rain(4, 3);
        due(x.worth(0), 10003, "worth");
        due(x.worth(1), 10003, "worth");
        x.fell(1, true);
        due(x.worth(1), 10000, "one FELLED");
        due(x.worth(0), 10000 + 28 + 25, "worth");
        due(x.worth(2), UNKNOWN, "worth");
        due(x.worth(-1), UNKNOWN, "worth");
        KeyOrchard y = orchardOf("kt03g03t12;029;129");
        y.rain(0, 3);
        y.rain(1, 1);
        due(y.worth(2), 10001, "the GRAFTED one comes later");
        KeyOrchard z = orchardOf("ko41t51;029;529");
        z.rain(0, 1);
        due(z.worth(0), 10000, "worth");
        z.rain(1, 3);
        due(z.worth(0), 10028, "worth");
        KeyOrchard all = orchardOf("kt01g05;029;129;029");
        all.rain(0, 1);
        all.rain(2, 5);
        due(all.worth(0), 10000 + (2 + 29 + 29) - (0 + 2 + 2), "all PRISONERS together");
    }

    private static void odds() {
        says("promise 19");
        KeyOrchard x = orchardOf("kt06;029;029");
        due(x.odds(0, 0, 0), 0, "odds");
        due(x.odds(0, 0, 1), 1, "odds");
        due(x.odds(0, 1, 0), 0, "odds");
        due(x.odds(0, 1, 1), 1, "odds");
        due(x.odds(0, 2, 0), 1, "odds");
        due(x.odds(0, 2, 1), 4, "odds");
        due(x.odds(0, 3, 0), 1, "odds in least terms");
        due(x.odds(0, 3, 1), 2, "odds in least terms");
        due(x.odds(0, 8, 0), 247, "odds");
        due(x.odds(0, 8, 1), 256, "odds");
        due(x.odds(1, 4, 0), 1, "odds");
        due(x.odds(1, 4, 1), 16, "odds");
        x.water(0, 0);
        x.rain(0, 9);
        due(x.odds(0, 1, 0), 1, "RAIN is in place, what is WATERED stays");
        due(x.odds(0, 1, 1), 2, "odds");
        x.frost(0, true);
        due(x.odds(0, 1, 0), 0, "a FROST stays");
        due(x.rain(0, 9), 9, "RAIN stays as told");
        KeyOrchard y = orchardOf("kt01;001");
        y.rain(0, 9);
        due(y.odds(0, 1, 1), 2, "odds");
        due(y.odds(0, 2, 0), 3, "odds");
        due(y.odds(0, 2, 1), 4, "odds");
        due(y.odds(0, 8, 0), 3, "a TERM is no TREE");
        KeyOrchard z = orchardOf("kt04;029");
        due(z.odds(0, 1, 0), 0, "the RAIN is 3");
        z.rain(2, 9);
        z.rain(3, 9);
        due(z.odds(0, 2, 0), 1, "ahead of DAY 2");
        due(z.odds(0, 2, 1), 4, "ahead of DAY 2");
        KeyOrchard now = orchardOf("kt01;029");
        now.rain(1, 9);
        due(now.odds(0, 1, 0), 1, "what falls on DAY 1 is no matter");
        due(now.odds(0, 1, 1), 2, "what falls on DAY 1 is no matter");
        KeyOrchard dry = orchardOf("kt03;029");
        dry.water(0, 0);
        due(dry.odds(0, 2, 0), 1, "OUT by each row, the dry one, too");
        due(dry.odds(0, 2, 1), 1, "OUT by each row, the dry one, too");
        due(y.odds(0, 9, 0), LOST, "odds");
        due(y.odds(0, -1, 0), LOST, "odds");
        due(y.odds(0, 1, 2), LOST, "odds");
        due(y.odds(0, 1, -1), LOST, "odds");
        due(y.odds(1, 1, 0), LOST, "odds");
        due(y.odds(-1, 1, 0), LOST, "odds");
        y.put(3, 0, 0);
        y.odds(1, 1, 0);
        due(y.fault(), 1, "odds names no FAULTS");
    }

    private static void green() {
        says("promise 20");
        KeyOrchard x = orchardOf("kt01g11o21t31t41t51;029");
        due(x.green(0, -1), 4, "green");
        due(x.green(0, 0), 0b001110, "1, 2, 3");
        due(x.green(0, 1), 0b010101, "0, 2, 4");
        due(x.green(0, 2), 0b100011, "0, 1, 5");
        due(x.green(0, 3), 0b111000, "3, 4, 5");
        due(x.green(0, 4), NONE, "fewer");
        due(x.green(0, MOST), NONE, "fewer");
        x.fell(1, true);
        due(x.green(0, -1), 2, "not FELLED");
        due(x.green(0, 0), 0b010101, "green");
        due(x.green(6, -2), OUTSIDE, "green");
        due(x.green(-1, 0), OUTSIDE, "green");
        due(x.green(0, -2), UNKNOWN, "green");
        due(x.green(0, LEAST), UNKNOWN, "green");
        KeyOrchard two = orchardOf("kt01t01;029");
        due(two.green(0, -1), 0, "two TREES");
        due(two.green(0, 0), NONE, "two TREES");
        KeyOrchard same = orchardOf("kt31t31t31;029");
        due(same.green(3, -1), 1, "LOCKS may be alike");
        due(same.green(3, 0), 7, "green");
        due(same.green(0, -1), 0, "green");
        KeyOrchard y = new KeyOrchard();
        due(y.green(6, -2), OUTSIDE, "green");
        due(y.green(5, -2), UNKNOWN, "green");
        due(y.green(5, -1), STATE, "green");
    }

    private static void reading() {
        says("promise 21");
        KeyOrchard x = new KeyOrchard();
        due(x.reading(0, 0, true), UNKNOWN, "reading");
        plant(x, "kt01;029");
        for (int k = 0; k < 8; k++) {
            due(x.reading(0, 29 - k, true), k, "reading");
        }
        due(x.reading(0, 0, true), FULL, "reading");
        due(x.reading(1, 0, true), UNKNOWN, "reading");
        due(x.reading(-1, 0, true), UNKNOWN, "reading");
        due(x.reading(0, 30, true), UNKNOWN, "reading");
        due(x.reading(0, -1, true), UNKNOWN, "reading");
        due(x.many(3), 8, "many");
    }

    private static void back() {
        says("promise 22");
        KeyOrchard x = new KeyOrchard();
        due(x.back(0), 0, "back");
        due(x.back(1), OUTSIDE, "back");
        plant(x, "kt01;029");
        x.reading(0, 28, false);
        x.reading(0, 28, true);
        due(x.thief(0), 0, "thief");
        due(x.back(3), OUTSIDE, "back");
        due(x.back(-1), OUTSIDE, "back");
        due(x.back(LEAST), OUTSIDE, "back");
        due(x.back(0), 2, "back");
        due(x.back(1), 1, "back: the last is gone");
        due(x.thief(0), 1, "thief");
        due(x.back(1), 0, "back");
        due(x.many(3), 0, "many");
    }

    private static void thief() {
        says("promise 23");
        KeyOrchard x = orchardOf("kt02t12t22;029;129;220");
        rainDaily(x, 1);
        due(x.thief(0), 7, "no READINGS");
        due(x.out(0), 1, "out");
        x.reading(0, 1, false);
        due(x.thief(1), 1, "thief");
        due(x.thief(0), 0, "too early for the CROW");
        due(x.thief(2), 0, "too late");
        x.reading(0, 3, true);
        x.reading(1, 1, true);
        due(x.thief(1), 1, "all READINGS");
        x.reading(2, 1, false);
        due(x.thief(1), 0, "all READINGS");
        due(x.out(0), 1, "no CROW comes by asking");
        x.back(4);
        for (int k = 0; k < 6; k++) {
            x.crow(1, 2);
        }
        x.reading(2, 1, false);
        x.reading(1, 1, false);
        due(x.thief(1), 2, "one more, also where there are 6");
        due(x.many(2), 6, "many");
        x.back(2);
        x.reading(2, 20, true);
        x.reading(2, 29, true);
        due(x.thief(1), 7, "OUT in any way");
        due(x.thief(30), UNKNOWN, "thief");
        due(x.thief(-1), UNKNOWN, "thief");
        due(new KeyOrchard().thief(0), STATE, "thief");
        due(new KeyOrchard().thief(30), UNKNOWN, "thief");
    }

    private static void sheet() {
        says("promise 24");
        KeyOrchard x = new KeyOrchard();
        due(x.sheet(4, 3, -1), UNKNOWN, "sheet");
        due(x.sheet(-1, 0, 1), UNKNOWN, "sheet");
        due(x.sheet(0, 3, -1), OUTSIDE, "sheet");
        due(x.sheet(0, -1, 0), OUTSIDE, "sheet");
        due(x.sheet(0, 0, 51), OUTSIDE, "sheet");
        due(x.sheet(0, 0, MOST), OUTSIDE, "sheet");
        due(x.fault(), 0, "fault");
        due(x.sheet(0, 0, -1), SIZE, "sheet");
        due(x.fault(), 4, "fault");
        due(x.lose(0), 0, "nothing came of it");
        due(x.sheet(0, 0, 50), 1, "sheet");
        due(x.fault(), 0, "fault");
        x.put(0, 49, 7);
        due(x.sheet(0, 0, LEAST), SIZE, "sheet");
        due(x.cell(0, 49, 0), 7, "the row stays");
        due(x.sheet(0, 2, 50), 1, "a new row");
        due(x.cell(0, 49, 2), 0, "0 at first");
        due(x.sheet(3, 1, 0), 1, "an empty row");
        due(x.put(3, 0, 1), INDEX, "put");
        due(x.lose(3), 1, "an empty row is not nothing");
    }

    private static void lose() {
        says("promise 25");
        KeyOrchard x = new KeyOrchard();
        due(x.lose(0), 0, "lose");
        x.sheet(0, 1, 3);
        due(x.lose(0), 1, "lose");
        due(x.lose(0), 0, "lose");
        due(x.cell(0, 0, 0), LOST, "cell");
        due(x.fault(), 1, "nothing is no CAST");
        due(x.lose(4), UNKNOWN, "lose");
        due(x.lose(-1), UNKNOWN, "lose");
        due(x.fault(), 1, "lose names no FAULTS");
    }

    private static void put() {
        says("promise 26");
        KeyOrchard x = new KeyOrchard();
        due(x.put(4, 0, 0), UNKNOWN, "put");
        due(x.put(-1, 0, 0), UNKNOWN, "put");
        due(x.put(0, -1, 0), NULL, "put");
        due(x.fault(), 1, "fault");
        x.sheet(0, 0, 2);
        due(x.put(0, 2, 0), INDEX, "put");
        due(x.put(0, -1, 0), INDEX, "put");
        due(x.put(0, LEAST, 0), INDEX, "put");
        due(x.put(0, MOST, 0), INDEX, "put");
        due(x.fault(), 3, "fault");
        due(x.put(0, 1, 200), 1, "put");
        due(x.fault(), 0, "fault");
        due(x.cell(0, 1, 0), -56, "cut to a byte, with its sign");
        x.sheet(1, 1, 1);
        x.put(1, 0, 0x18000);
        due(x.cell(1, 0, 1), -32768, "cut to a short");
        x.sheet(2, 2, 1);
        x.put(2, 0, LEAST);
        due(x.cell(2, 0, 2), LEAST, "an int");
    }

    private static void cell() {
        says("promise 27");
        KeyOrchard x = new KeyOrchard();
        x.sheet(0, 1, 2);
        x.put(0, 1, -3);
        due(x.cell(0, 1, 1), -3, "cell");
        due(x.fault(), 0, "fault");
        due(x.cell(0, 9, 0), LOST, "another LANE");
        due(x.fault(), 2, "fault");
        due(x.cell(1, 9, 0), LOST, "nothing");
        due(x.fault(), 1, "fault");
        due(x.cell(0, 2, 1), LOST, "no cell");
        due(x.fault(), 3, "fault");
        due(x.cell(0, -1, 1), LOST, "no cell");
        due(x.fault(), 3, "fault");
        due(x.cell(0, 0, 3), LOST, "no LANE");
        due(x.fault(), 0, "fault");
        due(x.cell(4, 0, 0), LOST, "no SHEET");
        due(x.cell(-1, 0, 0), LOST, "no SHEET");
        due(x.cell(0, 0, -1), LOST, "no LANE");
        due(x.fault(), 0, "fault");
    }

    private static void copy() {
        says("promise 28");
        KeyOrchard x = new KeyOrchard();
        for (int k = 0; k < 2; k++) {
            x.sheet(k, 0, 5);
        }
        for (int i = 0; i < 5; i++) {
            x.put(0, i, i + 1);
        }
        due(x.copy(0, 0, 0, 1, 4), 4, "the same SHEET");
        long[] same = {1, 1, 2, 3, 4};
        for (int i = 0; i < 5; i++) {
            due(x.cell(0, i, 0), same[i], "as they were");
        }
        due(x.copy(0, 3, 1, 0, 2), 2, "another SHEET");
        due(x.cell(1, 0, 0) * 100 + x.cell(1, 1, 0) * 10 + x.cell(1, 2, 0), 340, "what came");
        due(x.copy(0, 5, 1, 5, 0), 0, "no cells at the ends");
        due(x.copy(0, 6, 1, 0, 0), INDEX, "no cells beyond");
        due(x.copy(0, 0, 1, 6, 0), INDEX, "no cells beyond");
        due(x.copy(0, -1, 1, 0, 0), INDEX, "ahead");
        due(x.copy(0, 0, 1, -1, 0), INDEX, "ahead");
        due(x.copy(0, 0, 1, 0, -1), INDEX, "n below 0");
        due(x.copy(0, 0, 1, 1, 5), INDEX, "beyond");
        due(x.copy(0, 1, 1, 0, 5), INDEX, "beyond");
        due(x.copy(0, 1, 1, 1, MOST), INDEX, "beyond");
        due(x.copy(0, MOST, 1, 1, 1), INDEX, "beyond");
        due(x.fault(), 3, "fault");
        due(x.cell(1, 0, 0), 3, "nothing came of it");
        x.sheet(2, 1, 5);
        due(x.copy(0, 9, 2, 0, 1), CAST, "unlike LANES");
        due(x.fault(), 2, "fault");
        due(x.copy(0, 9, 3, 0, 1), NULL, "the other is nothing");
        due(x.copy(3, 0, 2, 0, 1), NULL, "the first is nothing");
        due(x.fault(), 1, "fault");
        due(x.copy(3, 0, 4, 0, 1), UNKNOWN, "no SHEET");
        due(x.copy(-1, 0, 3, 0, 1), UNKNOWN, "no SHEET");
        due(x.fault(), 0, "fault");
    }

    private static void tell() {
        says("promise 29");
        KeyOrchard x = orchardOf("kt03g14o25;029");
        due(x.tell(0), 3, "a TREE");
        due(x.trace(), 1, "1");
        due(x.tell(1), 104, "a GRAFTED one");
        due(x.trace(), (1 * 31 + 2) * 31 + 1, "2, 1");
        due(x.tell(2), 110, "an OLD one");
        int trace = 33 * 31 + 1;
        for (int number : new int[] {3, 2, 1, 1}) {
            trace = trace * 31 + number;
        }
        due(x.trace(), trace, "3, 2, 1, 1");
        due(x.tell(3), UNKNOWN, "tell");
        due(x.tell(-1), UNKNOWN, "tell");
        due(x.trace(), trace, "nothing is left by a refusal");
        x.fell(0, true);
        due(x.tell(0), 3, "one FELLED");
    }

    private static void shake() {
        says("promise 30");
        KeyOrchard x = orchardOf("kt03g14o25t01;029");
        due(x.shake(1), 1, "a GRAFTED one");
        due(x.trace(), 4, "4");
        due(x.shake(3), 3, "a TREE");
        due(x.trace(), 4 * 31 + 4, "4");
        due(x.shake(2), 60, "an OLD one");
        due(x.trace(), (4 * 31 + 4) * 31 + 5, "5");
        due(x.shake(4), UNKNOWN, "shake");
        due(x.shake(-1), UNKNOWN, "shake");
        due(x.trace(), (4 * 31 + 4) * 31 + 5, "nothing is left by a refusal");
    }

    private static void as() {
        says("promise 31");
        KeyOrchard x = orchardOf("kt03g14o25;029");
        int[][] all = {{1, CAST, CAST}, {1, 1, CAST}, {1, 1, 1}};
        for (int t = 0; t < 3; t++) {
            for (int kind = 0; kind < 3; kind++) {
                due(x.as(t, kind), all[t][kind], "as " + t + " " + kind);
                due(x.fault(), all[t][kind] == 1 ? 0 : 2, "fault");
            }
        }
        x.as(0, 2);
        due(x.as(0, 3), OUTSIDE, "as");
        due(x.as(0, -1), OUTSIDE, "as");
        due(x.fault(), 0, "fault");
        due(x.as(3, 3), UNKNOWN, "as");
        due(x.as(-1, 0), UNKNOWN, "as");
        due(new KeyOrchard().as(0, 0), UNKNOWN, "as");
    }

    private static void trace() {
        says("promise 32");
        KeyOrchard x = orchardOf("ko25;029");
        int trace = 0;
        due(x.trace(), trace, "trace");
        for (int i = 0; i < 20; i++) {
            x.tell(0);
            x.shake(0);
            for (int number : new int[] {3, 2, 1, 1, 5}) {
                trace = trace * 31 + number;
            }
            due(x.trace(), trace, "an int that wraps");
        }
        due(plant(x, "ko25;029"), 1, "orchard");
        due(x.trace(), trace, "TRACE stays");
    }

    private static void fault() {
        says("promise 33");
        KeyOrchard x = new KeyOrchard();
        due(x.fault(), 0, "ahead of any");
        int[] faults = {1, 2, 3, 4};
        for (int f : faults) {
            x.sheet(1, 1, 3);
            cause(x, f);
            due(x.fault(), f, "fault");
            due(x.fault(), f, "fault, asked again");
            x.lose(3);
            x.many(9);
            x.tell(9);
            x.out(9);
            x.rain(40, 0);
            x.trace();
            due(x.fault(), f, "calls that name none leave it");
            x.put(9, 0, 0);
            due(x.fault(), 0, "a refusal");
            cause(x, f);
            x.put(1, 2, 0);
            due(x.fault(), 0, "a call that came to none");
            cause(x, f);
            x.sheet(9, 0, 0);
            due(x.fault(), 0, "sheet");
            cause(x, f);
            x.cell(9, 0, 0);
            due(x.fault(), 0, "cell");
            cause(x, f);
            x.copy(9, 0, 0, 0, 0);
            due(x.fault(), 0, "copy");
            cause(x, f);
            x.as(9, 0);
            due(x.fault(), 0, "as");
            cause(x, f);
            x.orchard(9, 0, 0, 0);
            due(x.fault(), 0, "orchard");
        }
    }

    private static void cause(KeyOrchard x, int fault) {
        switch (fault) {
            case 1:
                x.put(0, 0, 0);
                break;
            case 2:
                x.cell(1, 0, 2);
                break;
            case 3:
                x.put(1, 3, 0);
                break;
            default:
                x.sheet(1, 1, -1);
                break;
        }
    }

    private static void many() {
        says("promise 34");
        KeyOrchard x = orchardOf("kt03g14;029;129;229");
        x.crow(0, 0);
        x.crow(0, 0);
        x.crow(0, 1);
        x.crow(0, 1);
        x.reading(0, 0, true);
        due(x.many(0), 2, "TREES");
        due(x.many(1), 3, "PRISONERS");
        due(x.many(2), 4, "CROWS");
        due(x.many(3), 1, "READINGS");
        due(x.many(4), OUTSIDE, "many");
        due(x.many(-1), OUTSIDE, "many");
        x.fell(0, true);
        due(x.many(0), 2, "FELLED ones, too");
    }
}
