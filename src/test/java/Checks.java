/** What the tests share: the document's numbers, how wrong answers are told, orchards by TEXTS. */
abstract class Checks {
    static final int UNKNOWN = -1, OUTSIDE = -2, STATE = -3, FULL = -4, NONE = -9;
    static final int NULL = -11, CAST = -12, INDEX = -13, SIZE = -14;
    static final long LOST = Long.MIN_VALUE;
    static final int LEAST = Integer.MIN_VALUE, MOST = Integer.MAX_VALUE;
    static final int BYTES = 0, SHORTS = 1, INTS = 2;

    private static int wrong = 0;
    private static String sentence = "";

    /** Names the document's words that the answers from here on are held against. */
    static void says(String words) {
        sentence = words;
    }

    static void due(long got, long want, String call) {
        if (got != want) {
            wrong++;
            System.out.println(sentence + ": " + call + " answered " + got + ", due is " + want);
        }
    }

    /** The last call of a test: tells how it went, to the shell also. */
    static void end(String allIsWell) {
        System.out.println(wrong == 0 ? allIsWell : wrong + " answers are not as due");
        if (wrong != 0) {
            System.exit(1);
        }
    }

    static void write(KeyOrchard x, int sheet, int lane, String text) {
        due(x.sheet(sheet, lane, text.length()), 1, "sheet for " + text);
        for (int i = 0; i < text.length(); i++) {
            due(x.put(sheet, i, text.charAt(i)), 1, "put of " + text);
        }
    }

    static int plant(KeyOrchard x, String text) {
        write(x, 0, BYTES, text);
        return x.orchard(0, BYTES, 0, text.length());
    }

    static KeyOrchard orchardOf(String text) {
        KeyOrchard x = new KeyOrchard();
        int trees = plant(x, text);
        if (trees < 1) {
            due(trees, 1, "orchard of " + text);
        }
        return x;
    }

    /** RAIN from DAY 0 on; behind what is told none. */
    static KeyOrchard rained(String text, int... byDay) {
        KeyOrchard x = orchardOf(text);
        for (int day = 0; day < byDay.length; day++) {
            x.rain(day, byDay[day]);
        }
        return x;
    }

    static void rainDaily(KeyOrchard x, int v) {
        for (int day = 0; day < 30; day++) {
            x.rain(day, v);
        }
    }
}
