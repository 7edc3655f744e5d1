import java.util.Random;

/** Long rows of calls, drawn from fixed seeds, whose answers are held against OrchardModel's. */
public final class ModelTest {
    private static final int RUNS = 1500, CALLS = 512;
    private static final int[] STRANGE = {Integer.MIN_VALUE, Integer.MIN_VALUE + 1, -1000, -129, -11, -10, -9, -8, -3,
        -2, -1, 6, 7, 8, 9, 29, 30, 31, 32, 49, 50, 51, 127, 128, 255, 256, 32767, 32768, 65536, Integer.MAX_VALUE - 1,
        Integer.MAX_VALUE};
    private static final String SIGNS = "ktgo;0123456789x/:";

    private final Random random;
    private final KeyOrchard x = new KeyOrchard();
    private final OrchardModel model = new OrchardModel();
    private int calls = 0;
    private int wrong = 0;

    private ModelTest(long seed) {
        random = new Random(seed);
    }

    public static void main(String[] args) {
        int wrong = 0;
        for (int seed = 0; seed < RUNS; seed++) {
            wrong += new ModelTest(seed).run(seed);
        }
        System.out.println(wrong == 0 ? RUNS + " runs are as the model's" : wrong + " runs are not as the model's");
        if (wrong != 0) {
            System.exit(1);
        }
    }

    private int run(long seed) {
        while (calls < CALLS - 100 && wrong == 0) {
            int kind = random.nextInt(100);
            if (calls == 0 && random.nextInt(8) != 0 || kind == 0) {
                plant();
            } else {
                call(random.nextInt(34));
            }
        }
        if (wrong != 0) {
            System.out.println("run " + seed + ", call " + calls);
        }
        return wrong;
    }

    private void due(String call, long got, long want) {
        calls++;
        if (got != want) {
            wrong++;
            System.out.println(call + " answered " + got + ", the model " + want);
        }
    }

    private int below(int bound) {
        return random.nextInt(40) == 0 ? STRANGE[random.nextInt(STRANGE.length)] : random.nextInt(bound);
    }

    /** Mostly from -1 on. */
    private int place(int bound) {
        return below(bound + 1) - 1;
    }

    private boolean yes() {
        return random.nextBoolean();
    }

    private String text() {
        StringBuilder s = new StringBuilder("k");
        int trees = 1 + random.nextInt(random.nextInt(10) == 0 ? 7 : 6);
        for (int t = 0; t < trees; t++) {
            s.append("tgo".charAt(random.nextInt(3))).append(random.nextInt(6)).append(1 + random.nextInt(9));
        }
        int prisoners = random.nextInt(10) == 0 ? random.nextInt(8) : 1 + random.nextInt(6);
        for (int p = 0; p < prisoners; p++) {
            s.append(';').append(random.nextInt(6)).append(yes() ? 2 : random.nextInt(3)).append(random.nextInt(10));
        }
        if (random.nextInt(6) == 0) {
            s.setCharAt(random.nextInt(s.length()), SIGNS.charAt(random.nextInt(SIGNS.length())));
        }
        if (random.nextInt(10) == 0) {
            s.setLength(random.nextInt(s.length() + 1));
        }
        return s.toString();
    }

    private void plant() {
        String s = text();
        int k = random.nextInt(4), lane = random.nextInt(3), ahead = random.nextInt(3);
        if (s.length() + ahead > 50) {
            return;
        }
        due("sheet", x.sheet(k, lane, s.length() + ahead), model.sheet(k, lane, s.length() + ahead));
        for (int i = 0; i < s.length(); i++) {
            int v = s.charAt(i) + (yes() ? 0 : lane == 0 ? 256 : lane == 1 ? 65536 : 0);
            due("put", x.put(k, i + ahead, v), model.put(k, i + ahead, v));
        }
        String call = "orchard of " + s + " in lane " + lane;
        due(call, x.orchard(k, lane, ahead, s.length()), model.orchard(k, lane, ahead, s.length()));
        for (int day = 0; day < 30; day++) {
            if (random.nextInt(3) == 0) {
                int v = random.nextInt(random.nextInt(9) + 1);
                due("rain", x.rain(day, v), model.rain(day, v));
            }
        }
    }

    private void call(int which) {
        int a, b, c, d, e;
        boolean is;
        switch (which) {
            case 0:
                a = place(5); b = below(3); c = below(3); d = place(12);
                due("orchard " + a + " " + b + " " + c + " " + d, x.orchard(a, b, c, d), model.orchard(a, b, c, d));
                break;
            case 1:
                a = place(7); b = place(7);
                due("ofTree " + a + " " + b, x.ofTree(a, b), model.ofTree(a, b));
                break;
            case 2:
                a = place(7); b = place(3);
                due("ofPrisoner " + a + " " + b, x.ofPrisoner(a, b), model.ofPrisoner(a, b));
                break;
            case 3:
                a = place(31); b = place(11);
                due("rain " + a + " " + b, x.rain(a, b), model.rain(a, b));
                break;
            case 4:
                a = below(12); b = random.nextInt(4) == 0 ? -9 : place(7);
                due("water " + a + " " + b, x.water(a, b), model.water(a, b));
                break;
            case 5:
                a = place(31); is = yes();
                due("frost " + a + " " + is, x.frost(a, is), model.frost(a, is));
                break;
            case 6:
                a = place(31); b = place(7);
                due("crow " + a + " " + b, x.crow(a, b), model.crow(a, b));
                break;
            case 7:
                a = place(4);
                due("shoo " + a, x.shoo(a), model.shoo(a));
                break;
            case 8:
                a = place(7); is = yes();
                due("fell " + a + " " + is, x.fell(a, is), model.fell(a, is));
                break;
            case 9:
                a = place(7);
                due("out " + a, x.out(a), model.out(a));
                break;
            case 10:
                a = place(7);
                due("by " + a, x.by(a), model.by(a));
                break;
            case 11:
                a = place(31);
                due("free " + a, x.free(a), model.free(a));
                break;
            case 12:
                a = place(7); b = place(31);
                due("has " + a + " " + b, x.has(a, b), model.has(a, b));
                break;
            case 13:
                a = place(7); b = yes() ? place(31) : below(6); c = place(5);
                due("least " + a + " " + b + " " + c, x.least(a, b, c), model.least(a, b, c));
                break;
            case 14:
                a = yes() ? place(31) : below(6); b = random.nextInt(5) == 0 ? place(6) : random.nextInt(4); c = place(5);
                due("most " + a + " " + b + " " + c, x.most(a, b, c), model.most(a, b, c));
                break;
            case 15:
                a = place(7); b = place(31);
                due("saws " + a + " " + b, x.saws(a, b), model.saws(a, b));
                break;
            case 16:
                a = place(7);
                due("worth " + a, x.worth(a), model.worth(a));
                break;
            case 17:
                a = place(7); b = place(10); c = place(3);
                due("odds " + a + " " + b + " " + c, x.odds(a, b, c), model.odds(a, b, c));
                break;
            case 18:
                a = place(7); b = place(5);
                due("green " + a + " " + b, x.green(a, b), model.green(a, b));
                break;
            case 19:
                a = place(7); b = place(31); is = yes();
                due("reading " + a + " " + b + " " + is, x.reading(a, b, is), model.reading(a, b, is));
                break;
            case 20:
                a = place(5);
                due("back " + a, x.back(a), model.back(a));
                break;
            case 21:
                a = place(31);
                due("thief " + a, x.thief(a), model.thief(a));
                break;
            case 22:
                a = place(5); b = place(4); c = place(52);
                due("sheet " + a + " " + b + " " + c, x.sheet(a, b, c), model.sheet(a, b, c));
                break;
            case 23:
                a = random.nextInt(3) == 0 ? place(5) : -1;
                due("lose " + a, x.lose(a), model.lose(a));
                break;
            case 24:
                a = place(5); b = place(52); c = yes() ? random.nextInt() : below(300);
                due("put " + a + " " + b + " " + c, x.put(a, b, c), model.put(a, b, c));
                break;
            case 25:
                a = place(5); b = place(52); c = place(4);
                due("cell " + a + " " + b + " " + c, x.cell(a, b, c), model.cell(a, b, c));
                break;
            case 26:
                a = place(5); b = place(20); c = place(5); d = place(20); e = place(20);
                due("copy " + a + " " + b + " " + c + " " + d + " " + e, x.copy(a, b, c, d, e), model.copy(a, b, c, d, e));
                break;
            case 27:
                a = place(7);
                due("tell " + a, x.tell(a), model.tell(a));
                break;
            case 28:
                a = place(7);
                due("shake " + a, x.shake(a), model.shake(a));
                break;
            case 29:
                a = place(7); b = place(4);
                due("as " + a + " " + b, x.as(a, b), model.as(a, b));
                break;
            case 30:
                due("trace", x.trace(), model.trace());
                break;
            case 31:
                due("fault", x.fault(), model.fault());
                break;
            default:
                a = place(5);
                due("many " + a, x.many(a), model.many(a));
                break;
        }
    }
}
