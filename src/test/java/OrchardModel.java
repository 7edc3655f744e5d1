import java.util.ArrayList;
import java.util.List;
import java.util.regex.Matcher;
import java.util.regex.Pattern;

/**
 * The document once more, as slowly and as literally as it goes, with real kinds, real arrays of
 * LANES and the machine's own exceptions for FAULTS: what KeyOrchard answers is held against it.
 */
final class OrchardModel {
    private static final int UNKNOWN = -1, OUTSIDE = -2, STATE = -3, FULL = -4, NONE = -9;
    private static final long LOST = Long.MIN_VALUE;

    private interface Shaken {
        int number();

        OrchardModel home();

        default int shaken() {
            home().leave(4);
            return number();
        }
    }

    private static class Tree implements Shaken {
        final OrchardModel home;
        final int number, lock, needs;
        boolean felled = false;

        Tree(OrchardModel home, int number, int lock, int needs) {
            this.home = home;
            this.number = number;
            this.lock = lock;
            this.needs = needs;
        }

        public int number() {
            return number;
        }

        public OrchardModel home() {
            return home;
        }

        int wants() {
            return needs;
        }

        boolean opens(int l) {
            return l == lock;
        }

        int tells() {
            home.leave(1);
            return needs;
        }

        final int treesTelling() {
            home.leave(1);
            return needs;
        }
    }

    private static class Grafted extends Tree {
        Grafted(OrchardModel home, int number, int lock, int needs) {
            super(home, number, lock, needs);
        }

        int wants() {
            return needs + 1;
        }

        boolean opens(int l) {
            return l == lock || l == (lock == 5 ? 0 : lock + 1);
        }

        int tells() {
            home.leave(2);
            return super.tells() + 100;
        }
    }

    private static class Old extends Grafted {
        Old(OrchardModel home, int number, int lock, int needs) {
            super(home, number, lock, needs);
        }

        int wants() {
            return 2 * super.wants();
        }

        boolean opens(int l) {
            return true;
        }

        int tells() {
            home.leave(3);
            int grafted = super.tells();
            int tree = treesTelling();
            return grafted + tree;
        }

        public int shaken() {
            home.leave(5);
            return 60;
        }
    }

    /** What the DAYS do, told anew for each question. */
    private static final class Facts {
        int[] rain = new int[30];
        int[] watered = new int[30];
        boolean[] frost = new boolean[30];
        List<int[]> crows = new ArrayList<>();
        boolean[] felled;

        Facts copy() {
            Facts f = new Facts();
            f.rain = rain.clone();
            f.watered = watered.clone();
            f.frost = frost.clone();
            f.crows = new ArrayList<>(crows);
            f.felled = felled.clone();
            return f;
        }
    }

    private static final class Course {
        final int[] outDay = new int[6], outBy = new int[6];
        final int[][] waterAt = new int[30][6];
    }

    private final Object[] sheets = new Object[4];
    private List<Tree> trees = new ArrayList<>();
    private List<int[]> prisoners = new ArrayList<>();
    private Facts told = new Facts();
    private List<int[]> readings = new ArrayList<>();
    private int trace = 0, fault = 0;

    private void leave(int number) {
        trace = trace * 31 + number;
    }

    private int faultOf(RuntimeException e) {
        if (e instanceof NullPointerException) {
            return 1;
        }
        if (e instanceof ClassCastException) {
            return 2;
        }
        if (e instanceof IndexOutOfBoundsException) {
            return 3;
        }
        if (e instanceof NegativeArraySizeException) {
            return 4;
        }
        throw e;
    }

    private static int[] ints(Object row, int lane) {
        switch (lane) {
            case 0: {
                byte[] b = (byte[]) row;
                int[] r = new int[b.length];
                for (int i = 0; i < r.length; i++) {
                    r[i] = b[i];
                }
                return r;
            }
            case 1: {
                short[] b = (short[]) row;
                int[] r = new int[b.length];
                for (int i = 0; i < r.length; i++) {
                    r[i] = b[i];
                }
                return r;
            }
            default: {
                int[] b = (int[]) row;
                return b.clone();
            }
        }
    }

    private static final String TREE = "[tgo][0-5][1-9]", PRISONER = ";[0-5][0-2][0-9]";
    private static final Pattern WHOLE = Pattern.compile("k((?:" + TREE + "){1,6})((?:" + PRISONER + "){1,6})");

    /** Whether a TEXT begins so: hitEnd tells that more could make it match. */
    private static boolean begins(String head) {
        Matcher m = WHOLE.matcher(head);
        return m.matches() || m.hitEnd();
    }

    int orchard(int sheet, int lane, int i, int n) {
        fault = 0;
        if (sheet < 0 || sheet > 3) {
            return UNKNOWN;
        }
        if (lane < 0 || lane > 2) {
            return OUTSIDE;
        }
        StringBuilder text = new StringBuilder();
        try {
            int[] row = ints(sheets[sheet], lane);
            int[] cells = new int[Math.min(n, 60)];
            System.arraycopy(row, i, cells, 0, n);
            for (int c : cells) {
                text.append(c >= 0 && c < 128 ? (char) c : '?');
            }
        } catch (RuntimeException e) {
            fault = faultOf(e);
            return -10 - fault;
        }
        String s = text.toString();
        Matcher m = WHOLE.matcher(s);
        if (!m.matches()) {
            int place = 0;
            while (place < s.length() && begins(s.substring(0, place + 1))) {
                place++;
            }
            return -100 - place;
        }
        plant(m.group(1), m.group(2));
        return trees.size();
    }

    private void plant(String treeText, String prisonerText) {
        trees = new ArrayList<>();
        prisoners = new ArrayList<>();
        readings = new ArrayList<>();
        told = new Facts();
        java.util.Arrays.fill(told.watered, NONE);
        for (int at = 0; at < treeText.length(); at += 3) {
            int number = trees.size(), lock = treeText.charAt(at + 1) - '0', needs = treeText.charAt(at + 2) - '0';
            char letter = treeText.charAt(at);
            trees.add(letter == 't' ? new Tree(this, number, lock, needs)
                    : letter == 'g' ? new Grafted(this, number, lock, needs) : new Old(this, number, lock, needs));
        }
        for (int at = 0; at < prisonerText.length(); at += 4) {
            prisoners.add(new int[] {prisonerText.charAt(at + 1) - '0',
                    Integer.parseInt(prisonerText.substring(at + 2, at + 4))});
        }
    }

    private boolean noTree(int t) {
        return t < 0 || t >= trees.size();
    }

    private boolean noPrisoner(int p) {
        return p < 0 || p >= prisoners.size();
    }

    private boolean noDay(int day) {
        return day < 0 || day > 29;
    }

    int ofTree(int t, int what) {
        if (noTree(t)) {
            return UNKNOWN;
        }
        Tree tree = trees.get(t);
        int opened = 0;
        for (int l = 0; l < 6; l++) {
            opened += tree.opens(l) ? 1 << l : 0;
        }
        int kind = tree instanceof Old ? 2 : tree instanceof Grafted ? 1 : 0;
        int[] all = {kind, tree.lock, tree.needs, tree.wants(), opened, tree.felled ? 1 : 0};
        return what < 0 || what > 5 ? OUTSIDE : all[what];
    }

    int ofPrisoner(int p, int what) {
        return noPrisoner(p) ? UNKNOWN : what < 0 || what > 1 ? OUTSIDE : prisoners.get(p)[what];
    }

    int rain(int day, int v) {
        if (noDay(day)) {
            return UNKNOWN;
        }
        if (v < 0 || v > 9) {
            return OUTSIDE;
        }
        if (trees.isEmpty()) {
            return STATE;
        }
        int was = told.rain[day];
        told.rain[day] = v;
        return was;
    }

    int water(int day, int t) {
        if (noDay(day) || noTree(t) && t != NONE) {
            return UNKNOWN;
        }
        if (trees.isEmpty()) {
            return STATE;
        }
        int was = told.watered[day];
        told.watered[day] = t;
        return was;
    }

    int frost(int day, boolean is) {
        if (noDay(day)) {
            return UNKNOWN;
        }
        if (trees.isEmpty()) {
            return STATE;
        }
        boolean was = told.frost[day];
        told.frost[day] = is;
        return was == is ? 0 : 1;
    }

    int crow(int day, int t) {
        if (noDay(day) || noTree(t)) {
            return UNKNOWN;
        }
        if (told.crows.size() == 6) {
            return FULL;
        }
        told.crows.add(new int[] {day, t});
        return told.crows.size() - 1;
    }

    int shoo(int k) {
        if (k < 0 || k > told.crows.size()) {
            return OUTSIDE;
        }
        told.crows = new ArrayList<>(told.crows.subList(0, told.crows.size() - k));
        return told.crows.size();
    }

    int fell(int t, boolean is) {
        if (noTree(t)) {
            return UNKNOWN;
        }
        boolean was = trees.get(t).felled;
        trees.get(t).felled = is;
        return was == is ? 0 : 1;
    }

    private Facts facts() {
        Facts f = told;
        f.felled = new boolean[6];
        for (Tree t : trees) {
            f.felled[t.number] = t.felled;
        }
        return f.copy();
    }

    private Course course(Facts f) {
        Course c = new Course();
        int[] has = new int[6];
        boolean[] isOut = new boolean[6];
        for (int day = 0; day < 30; day++) {
            for (Tree t : trees) {
                if (!f.frost[day]) {
                    has[t.number] += f.rain[day] + (f.watered[day] == t.number ? 3 : 0);
                }
            }
            for (int[] crow : f.crows) {
                if (crow[0] == day && has[crow[1]] >= trees.get(crow[1]).wants()) {
                    has[crow[1]] = 0;
                }
            }
            for (Tree t : trees) {
                if (f.felled[t.number] || has[t.number] < t.wants()) {
                    continue;
                }
                for (int p = 0; p < prisoners.size(); p++) {
                    if (!isOut[p] && t.opens(prisoners.get(p)[0])) {
                        isOut[p] = true;
                        c.outDay[p] = day;
                        c.outBy[p] = t.number;
                        has[t.number] = 0;
                        break;
                    }
                }
            }
            for (int p = 0; p < prisoners.size(); p++) {
                if (!isOut[p] && prisoners.get(p)[1] == day) {
                    isOut[p] = true;
                    c.outDay[p] = day;
                    c.outBy[p] = NONE;
                }
            }
            c.waterAt[day] = has.clone();
        }
        return c;
    }

    private static boolean byTreeBy(Course c, int p, int day) {
        return c.outBy[p] != NONE && c.outDay[p] <= day;
    }

    int out(int p) {
        return noPrisoner(p) ? UNKNOWN : course(facts()).outDay[p];
    }

    int by(int p) {
        return noPrisoner(p) ? UNKNOWN : course(facts()).outBy[p];
    }

    int free(int day) {
        if (noDay(day)) {
            return UNKNOWN;
        }
        if (trees.isEmpty()) {
            return STATE;
        }
        Course c = course(facts());
        int set = 0;
        for (int p = 0; p < prisoners.size(); p++) {
            set += c.outDay[p] <= day ? 1 << p : 0;
        }
        return set;
    }

    int has(int t, int day) {
        return noTree(t) || noDay(day) ? UNKNOWN : course(facts()).waterAt[day][t];
    }

    private List<int[]> rows(int k) {
        List<int[]> all = new ArrayList<>();
        if (k == 0) {
            all.add(new int[0]);
            return all;
        }
        for (int[] head : rows(k - 1)) {
            for (Tree t : trees) {
                int[] row = java.util.Arrays.copyOf(head, k);
                row[k - 1] = t.number;
                all.add(row);
            }
        }
        return all;
    }

    private Course wateredBy(int[] row) {
        Facts f = facts();
        for (int day = 0; day < 30; day++) {
            f.watered[day] = day < row.length ? row[day] : NONE;
        }
        return course(f);
    }

    int least(int p, int day, int q) {
        if (noPrisoner(p) || noDay(day) || q < -1) {
            return UNKNOWN;
        }
        for (int k = 0; k <= 4; k++) {
            for (int[] row : rows(k)) {
                if (byTreeBy(wateredBy(row), p, day)) {
                    return q == -1 ? k : q < k ? row[q] : NONE;
                }
            }
        }
        return NONE;
    }

    int most(int day, int k, int q) {
        if (noDay(day) || q < -1) {
            return UNKNOWN;
        }
        if (k < 0 || k > 4) {
            return OUTSIDE;
        }
        if (trees.isEmpty()) {
            return STATE;
        }
        int most = -1;
        int[] best = null;
        for (int[] row : rows(k)) {
            Course c = wateredBy(row);
            int count = 0;
            for (int p = 0; p < prisoners.size(); p++) {
                count += byTreeBy(c, p, day) ? 1 : 0;
            }
            if (count > most) {
                most = count;
                best = row;
            }
        }
        return q == -1 ? most : q < k ? best[q] : NONE;
    }

    int saws(int p, int day) {
        if (noPrisoner(p) || noDay(day)) {
            return UNKNOWN;
        }
        for (int size = 0; size <= 6; size++) {
            for (int set = 0; set < 1 << trees.size(); set++) {
                Facts f = facts();
                int taken = 0;
                for (Tree t : trees) {
                    if ((set & 1 << t.number) != 0 && !f.felled[t.number]) {
                        f.felled[t.number] = true;
                        taken++;
                    }
                }
                if (Integer.bitCount(set) == size && taken == size && !byTreeBy(course(f), p, day)) {
                    return set;
                }
            }
        }
        throw new IllegalStateException("all TREES are enough");
    }

    private int outDays(Facts f) {
        Course c = course(f);
        int sum = 0;
        for (int p = 0; p < prisoners.size(); p++) {
            sum += c.outDay[p];
        }
        return sum;
    }

    int worth(int t) {
        if (noTree(t)) {
            return UNKNOWN;
        }
        Facts f = facts();
        f.felled[t] = true;
        return 10000 + outDays(f) - outDays(facts());
    }

    long odds(int p, int n, int which) {
        if (noPrisoner(p) || n < 0 || n > 8 || which < 0 || which > 1) {
            return LOST;
        }
        int good = 0, all = 0;
        for (int row = 0; row < 1 << n; row++) {
            Facts f = facts();
            for (int day = 0; day < n; day++) {
                f.rain[day] = (row >> day) % 2 * 3;
            }
            all++;
            good += byTreeBy(course(f), p, n - 1) ? 1 : 0;
        }
        int divisor = 1;
        for (int d = 1; d <= all; d++) {
            if (all % d == 0 && good % d == 0) {
                divisor = d;
            }
        }
        return which == 0 ? good / divisor : all / divisor;
    }

    int green(int lock, int k) {
        if (lock < 0 || lock > 5) {
            return OUTSIDE;
        }
        if (k < -1) {
            return UNKNOWN;
        }
        if (trees.isEmpty()) {
            return STATE;
        }
        List<Integer> sets = new ArrayList<>();
        for (Tree a : trees) {
            for (Tree b : trees) {
                for (Tree c : trees) {
                    boolean unlike = a.number < b.number && b.number < c.number;
                    boolean stand = !a.felled && !b.felled && !c.felled;
                    if (unlike && stand && (a.lock + b.lock + c.lock) % 6 == lock) {
                        sets.add(1 << a.number | 1 << b.number | 1 << c.number);
                    }
                }
            }
        }
        java.util.Collections.sort(sets);
        return k == -1 ? sets.size() : k < sets.size() ? sets.get(k) : NONE;
    }

    int reading(int p, int day, boolean isOut) {
        if (noPrisoner(p) || noDay(day)) {
            return UNKNOWN;
        }
        if (readings.size() == 8) {
            return FULL;
        }
        readings.add(new int[] {p, day, isOut ? 1 : 0});
        return readings.size() - 1;
    }

    int back(int k) {
        if (k < 0 || k > readings.size()) {
            return OUTSIDE;
        }
        readings = new ArrayList<>(readings.subList(0, readings.size() - k));
        return readings.size();
    }

    int thief(int day) {
        if (noDay(day)) {
            return UNKNOWN;
        }
        if (trees.isEmpty()) {
            return STATE;
        }
        int set = 0;
        for (Tree t : trees) {
            Facts f = facts();
            f.crows.add(new int[] {day, t.number});
            Course c = course(f);
            boolean all = true;
            for (int[] r : readings) {
                all &= c.outDay[r[0]] <= r[1] == (r[2] == 1);
            }
            set += all ? 1 << t.number : 0;
        }
        return set;
    }

    int sheet(int k, int lane, int n) {
        fault = 0;
        if (k < 0 || k > 3) {
            return UNKNOWN;
        }
        if (lane < 0 || lane > 2 || n > 50) {
            return OUTSIDE;
        }
        try {
            sheets[k] = lane == 0 ? new byte[n] : lane == 1 ? new short[n] : new int[n];
            return 1;
        } catch (RuntimeException e) {
            fault = faultOf(e);
            return -10 - fault;
        }
    }

    int lose(int k) {
        if (k < 0 || k > 3) {
            return UNKNOWN;
        }
        int had = sheets[k] == null ? 0 : 1;
        sheets[k] = null;
        return had;
    }

    int put(int k, int i, int v) {
        fault = 0;
        if (k < 0 || k > 3) {
            return UNKNOWN;
        }
        try {
            if (sheets[k] instanceof byte[]) {
                ((byte[]) sheets[k])[i] = (byte) v;
            } else if (sheets[k] instanceof short[]) {
                ((short[]) sheets[k])[i] = (short) v;
            } else {
                ((int[]) sheets[k])[i] = v;
            }
            return 1;
        } catch (RuntimeException e) {
            fault = faultOf(e);
            return -10 - fault;
        }
    }

    long cell(int k, int i, int lane) {
        fault = 0;
        if (k < 0 || k > 3 || lane < 0 || lane > 2) {
            return LOST;
        }
        try {
            return ints(sheets[k], lane)[i];
        } catch (RuntimeException e) {
            fault = faultOf(e);
            return LOST;
        }
    }

    int copy(int k, int i, int other, int j, int n) {
        fault = 0;
        if (k < 0 || k > 3 || other < 0 || other > 3) {
            return UNKNOWN;
        }
        try {
            System.arraycopy(sheets[k], i, sheets[other], j, n);
            return n;
        } catch (ArrayStoreException e) {
            fault = 2;
        } catch (RuntimeException e) {
            fault = faultOf(e);
        }
        return -10 - fault;
    }

    int tell(int t) {
        return noTree(t) ? UNKNOWN : trees.get(t).tells();
    }

    int shake(int t) {
        return noTree(t) ? UNKNOWN : trees.get(t).shaken();
    }

    int as(int t, int kind) {
        fault = 0;
        if (noTree(t)) {
            return UNKNOWN;
        }
        if (kind < 0 || kind > 2) {
            return OUTSIDE;
        }
        try {
            Shaken tree = trees.get(t);
            Shaken taken = kind == 0 ? (Tree) tree : kind == 1 ? (Grafted) tree : (Old) tree;
            return taken == tree ? 1 : 0;
        } catch (RuntimeException e) {
            fault = faultOf(e);
            return -10 - fault;
        }
    }

    int trace() {
        return trace;
    }

    int fault() {
        return fault;
    }

    int many(int what) {
        int[] all = {trees.size(), prisoners.size(), told.crows.size(), readings.size()};
        return what < 0 || what > 3 ? OUTSIDE : all[what];
    }
}
