import java.lang.reflect.Array;
import java.util.ArrayList;
import java.util.HashSet;
import java.util.List;
import java.util.Set;

/**
 * The document once more, by other means than the class: ROWS as lists that are walked one by one, SHEETS as arrays of
 * the machine's, FAULTS as what the machine throws. Slow and plain, to compare with.
 */
final class Model {
    private static final long LOST = Long.MIN_VALUE;
    private int base = 0;
    private List<Integer> kinds = new ArrayList<>();
    private List<Integer> now = new ArrayList<>();
    private final List<int[]> readings = new ArrayList<>();
    private final Object[] sheets = new Object[4];
    private int done = 0;
    private int trace = 0;
    private int fault = 0;

    /** What a call that names FAULTS does, past its refusals. */
    private interface Body {
        long run();
    }

    private long guarded(Body body, boolean isLong) {
        fault = 0;
        try {
            return body.run();
        } catch (NullPointerException e) {
            fault = 1;
        } catch (ClassCastException e) {
            fault = 2;
        } catch (IndexOutOfBoundsException e) {
            fault = 3;
        } catch (NegativeArraySizeException e) {
            fault = 4;
        }
        return isLong ? LOST : -10 - fault;
    }

    private static Object cast(Object row, int lane) {
        Class<?>[] types = {byte[].class, short[].class, int[].class};
        return types[lane].cast(row);
    }

    private static int lengthOf(Object row) {
        if (row == null) {
            throw new NullPointerException();
        }
        return Array.getLength(row);
    }

    /** Cells as the machine takes them: a null, a length below 0, a place beyond, in this order. */
    private int[] cellsOf(int sheet, int lane, int i, int n) {
        Object row = cast(sheets[sheet], lane);
        lengthOf(row);
        // More cells than any SHEET has are as wrong as one more, and need no room.
        int length = Math.min(n, 61);
        Object part = Array.newInstance(row.getClass().getComponentType(), length);
        System.arraycopy(row, i, part, 0, length);
        int[] cells = new int[length];
        for (int k = 0; k < length; k++) {
            cells[k] = Array.getInt(part, k);
        }
        return cells;
    }

    private static boolean in(long v, long least, long most) {
        return v >= least && v <= most;
    }

    private boolean isPlace(int p) {
        return in(p, 0, kinds.size() - 1);
    }

    private static List<Integer> step(List<Integer> row, List<Integer> kinds, int base) {
        List<Integer> then = new ArrayList<>();
        int n = row.size();
        for (int p = 0; p < n; p++) {
            int near = Math.abs(row.get(p) - row.get((p + 1) % n));
            int far = Math.abs(row.get(p) - row.get((p + 2) % n));
            then.add(kinds.get(p) == 0 ? near : kinds.get(p) == 1 ? far : (near + far) % base);
        }
        return then;
    }

    private List<Integer> step(List<Integer> row) {
        return step(row, kinds, base);
    }

    private List<Integer> behind(List<Integer> row, long t) {
        List<Integer> at = row;
        for (long s = 0; s < t; s++) {
            at = step(at);
        }
        return at;
    }

    /** The ROWS of a way up to the one that comes again, which stands at its end, too. */
    private List<List<Integer>> way(List<Integer> row) {
        List<List<Integer>> way = new ArrayList<>();
        List<Integer> at = row;
        while (!way.contains(at)) {
            way.add(at);
            at = step(at);
        }
        way.add(at);
        return way;
    }

    private int tail(List<Integer> row) {
        List<List<Integer>> way = way(row);
        return way.indexOf(way.get(way.size() - 1));
    }

    private int round(List<Integer> row) {
        return way(row).size() - 1 - tail(row);
    }

    private static boolean isOut(List<Integer> row) {
        return row.stream().allMatch(v -> v == 0);
    }

    private boolean goesOut(List<Integer> row) {
        return way(row).stream().anyMatch(Model::isOut);
    }

    private List<List<Integer>> all() {
        List<List<Integer>> rows = new ArrayList<>();
        rows.add(new ArrayList<>());
        for (int p = 0; p < kinds.size(); p++) {
            List<List<Integer>> longer = new ArrayList<>();
            for (List<Integer> row : rows) {
                for (int v = 0; v < base; v++) {
                    List<Integer> more = new ArrayList<>(row);
                    more.add(v);
                    longer.add(more);
                }
            }
            rows = longer;
        }
        return rows;
    }

    long ring(int sheet, int lane, int i, int n) {
        fault = 0;
        if (!in(sheet, 0, 3)) {
            return -1;
        }
        if (!in(lane, 0, 2)) {
            return -2;
        }
        return guarded(() -> {
            StringBuilder text = new StringBuilder();
            for (int code : cellsOf(sheet, lane, i, n)) {
                text.append(in(code, 1, 126) ? (char) code : '~');
            }
            return takeText(text.toString());
        }, false);
    }

    private static boolean begins(String text) {
        if (text.length() < 2) {
            return text.isEmpty() || text.equals("r");
        }
        if (!text.matches("r[2-6].*")) {
            return false;
        }
        String digits = "0-" + (char) (text.charAt(1) - 1);
        return text.matches("r.(;[pfm][" + digits + "]){0,4}(;([pfm][" + digits + "]?)?)?");
    }

    private long takeText(String text) {
        int good = 0;
        while (good < text.length() && begins(text.substring(0, good + 1))) {
            good++;
        }
        if (good < text.length() || !text.matches("r.(;..){2,5}")) {
            return -100 - good;
        }
        base = text.charAt(1) - '0';
        kinds = new ArrayList<>();
        now = new ArrayList<>();
        for (String part : text.substring(3).split(";")) {
            kinds.add("pfm".indexOf(part.charAt(0)));
            now.add(part.charAt(1) - '0');
        }
        done = 0;
        readings.clear();
        return kinds.size();
    }

    long ofPlace(int p, int what) {
        if (!isPlace(p)) {
            return -1;
        }
        return what == 0 ? kinds.get(p) : what == 1 ? now.get(p) : what == 2 ? step(now).get(p) : -2;
    }

    long write(int p, int v) {
        return !isPlace(p) ? -1 : !in(v, 0, base - 1) ? -2 : now.set(p, v);
    }

    long steps(int n) {
        if (!in(n, 1, 99)) {
            return -2;
        }
        if (kinds.isEmpty()) {
            return -3;
        }
        now = behind(now, n);
        done += n;
        return zeros();
    }

    private long zeros() {
        return now.stream().filter(v -> v == 0).count();
    }

    long after(int p, long t) {
        if (!isPlace(p)) {
            return -1;
        }
        if (!in(t, 0, 1_000_000_000_000_000_000L)) {
            return -2;
        }
        int tail = tail(now);
        return behind(now, t < tail ? t : tail + (t - tail) % round(now)).get(p);
    }

    long day(int sheet, int lane, int i, int n, int what) {
        fault = 0;
        if (!in(sheet, 0, 3)) {
            return -1;
        }
        if (!in(lane, 0, 2) || !in(n, 0, 20) || !in(what, 0, 4) && !in(what, 10, 14)) {
            return -2;
        }
        if (kinds.isEmpty()) {
            return -3;
        }
        return guarded(() -> played(cellsOf(sheet, lane, i, 2 * n), what), false);
    }

    private long played(int[] cells, int what) {
        for (int k = 0; k < cells.length; k += 2) {
            boolean writes = in(cells[k + 1], 0, 4) && in(cells[k], 0, 5);
            boolean steps = cells[k + 1] == 9 && in(cells[k], 0, 99);
            if (!writes && !steps) {
                return -2;
            }
        }
        List<Integer> row = new ArrayList<>(now);
        int steps = 0;
        int outs = 0;
        for (int k = 0; k < cells.length; k += 2) {
            if (cells[k + 1] == 9) {
                row = behind(row, cells[k]);
                steps += cells[k];
            } else if (isPlace(cells[k + 1]) && cells[k] < base) {
                row = new ArrayList<>(row);
                row.set(cells[k + 1], cells[k]);
            } else {
                return what == 1 ? k / 2 : -100 - k / 2;
            }
            outs += isOut(row) ? 1 : 0;
        }
        if (what >= 10) {
            return isPlace(what - 10) ? row.get(what - 10) : -9;
        }
        int sum = row.stream().mapToInt(v -> v).sum();
        return new long[] {sum, -9, steps, outs, tail(row)}[what];
    }

    long now(int what) {
        if (!in(what, 0, 2)) {
            return -2;
        }
        if (kinds.isEmpty()) {
            return -3;
        }
        return what == 0 ? tail(now) : what == 1 ? round(now) : goesOut(now) ? 1 : 0;
    }

    long from(int k) {
        if (!in(k, -1, 4)) {
            return -2;
        }
        if (kinds.isEmpty()) {
            return -3;
        }
        List<List<Integer>> comers = all();
        comers.removeIf(row -> !step(row).equals(now));
        if (k == -1) {
            return comers.size();
        }
        return comers.isEmpty() || !isPlace(k) ? -9 : comers.get(0).get(k);
    }

    long rows(int what) {
        if (!in(what, 0, 4)) {
            return -2;
        }
        if (kinds.isEmpty()) {
            return -3;
        }
        List<List<Integer>> all = all();
        switch (what) {
            case 0:
                return all.size();
            case 1:
                return all.stream().filter(row -> step(row).equals(row)).count();
            case 2:
                Set<List<Integer>> made = new HashSet<>();
                all.forEach(row -> made.add(step(row)));
                return all.size() - made.size();
            case 3:
                return all.stream().filter(this::goesOut).count();
            default:
                Set<Set<List<Integer>>> rounds = new HashSet<>();
                all.forEach(row -> rounds.add(new HashSet<>(way(row).subList(tail(row), way(row).size()))));
                return rounds.size();
        }
    }

    long longest(int k) {
        if (!in(k, -1, 4)) {
            return -2;
        }
        if (kinds.isEmpty()) {
            return -3;
        }
        int most = -1;
        List<Integer> first = null;
        for (List<Integer> row : all()) {
            int tail = tail(row);
            if (tail > most) {
                most = tail;
                first = row;
            }
        }
        return k == -1 ? most : isPlace(k) ? first.get(k) : -9;
    }

    long meet(int sheet, int lane, int i) {
        fault = 0;
        if (kinds.isEmpty()) {
            return -3;
        }
        if (!in(sheet, 0, 3)) {
            return -1;
        }
        if (!in(lane, 0, 2)) {
            return -2;
        }
        return guarded(() -> meeting(cellsOf(sheet, lane, i, kinds.size())), false);
    }

    private long meeting(int[] cells) {
        List<Integer> other = new ArrayList<>();
        for (int v : cells) {
            if (!in(v, 0, base - 1)) {
                return -2;
            }
            other.add(v);
        }
        List<Integer> one = now;
        Set<List<List<Integer>>> seen = new HashSet<>();
        for (int s = 0; seen.add(List.of(one, other)); s++) {
            if (one.equals(other)) {
                return s;
            }
            one = step(one);
            other = step(other);
        }
        return -9;
    }

    long few(int what) {
        if (!in(what, 0, 1)) {
            return -2;
        }
        if (kinds.isEmpty()) {
            return -3;
        }
        for (int many = 0; many <= kinds.size(); many++) {
            for (int set = 0; set < 1 << kinds.size(); set++) {
                if (Integer.bitCount(set) == many && canGoOutBy(set, new ArrayList<>(now), 0)) {
                    return what == 0 ? many : set;
                }
            }
        }
        throw new IllegalStateException();
    }

    private boolean canGoOutBy(int set, List<Integer> row, int p) {
        if (p == row.size()) {
            return goesOut(row);
        }
        if ((set >> p & 1) == 0) {
            return canGoOutBy(set, row, p + 1);
        }
        for (int v = 0; v < base; v++) {
            List<Integer> other = new ArrayList<>(row);
            other.set(p, v);
            if (canGoOutBy(set, other, p + 1)) {
                return true;
            }
        }
        return false;
    }

    long reading(int t, int p, int v) {
        if (!isPlace(p)) {
            return -1;
        }
        if (!in(t, 0, 99) || !in(v, 0, 5)) {
            return -2;
        }
        if (readings.size() == 8) {
            return -4;
        }
        readings.add(new int[] {t, p, v});
        return readings.size() - 1;
    }

    long back(int k) {
        if (!in(k, 0, readings.size())) {
            return -2;
        }
        readings.subList(readings.size() - k, readings.size()).clear();
        return readings.size();
    }

    private boolean areSo(List<Integer> row, List<Integer> ofKinds) {
        for (int[] r : readings) {
            List<Integer> at = row;
            for (int s = 0; s < r[0]; s++) {
                at = step(at, ofKinds, base);
            }
            if (at.get(r[1]) != r[2]) {
                return false;
            }
        }
        return true;
    }

    long kinds(int p) {
        if (!isPlace(p)) {
            return -1;
        }
        long set = 0;
        for (int k = 0; k < 3; k++) {
            List<Integer> other = new ArrayList<>(kinds);
            other.set(p, k);
            set += areSo(now, other) ? 1 << k : 0;
        }
        return set;
    }

    long firsts(int p) {
        if (!isPlace(p)) {
            return -1;
        }
        long set = 0;
        for (int v = 0; v < base; v++) {
            List<Integer> other = new ArrayList<>(now);
            other.set(p, v);
            set += areSo(other, kinds) ? 1 << v : 0;
        }
        return set;
    }

    long odds(int p, int t, int v, int which) {
        if (!isPlace(p) || !in(t, 0, 99) || !in(v, 0, 5) || !in(which, 0, 1)) {
            return LOST;
        }
        List<List<Integer>> all = all();
        long so = all.stream().filter(row -> behind(row, t).get(p) == v).count();
        long common = java.math.BigInteger.valueOf(so).gcd(java.math.BigInteger.valueOf(all.size())).longValue();
        return (which == 0 ? so : all.size()) / common;
    }

    long sheet(int k, int lane, int n) {
        fault = 0;
        if (!in(k, 0, 3)) {
            return -1;
        }
        if (!in(lane, 0, 2) || n > 60) {
            return -2;
        }
        return guarded(() -> {
            sheets[k] = lane == 0 ? new byte[n] : lane == 1 ? new short[n] : (Object) new int[n];
            return 1;
        }, false);
    }

    long lose(int k) {
        if (!in(k, 0, 3)) {
            return -1;
        }
        int had = sheets[k] == null ? 0 : 1;
        sheets[k] = null;
        return had;
    }

    long put(int k, int i, int v) {
        fault = 0;
        if (!in(k, 0, 3)) {
            return -1;
        }
        return guarded(() -> {
            lengthOf(sheets[k]);
            if (sheets[k] instanceof byte[]) {
                ((byte[]) sheets[k])[i] = (byte) v;
            } else if (sheets[k] instanceof short[]) {
                ((short[]) sheets[k])[i] = (short) v;
            } else {
                ((int[]) sheets[k])[i] = v;
            }
            return 1;
        }, false);
    }

    long cell(int k, int i, int lane) {
        fault = 0;
        if (!in(k, 0, 3) || !in(lane, 0, 2)) {
            return LOST;
        }
        return guarded(() -> {
            Object row = cast(sheets[k], lane);
            lengthOf(row);
            return Array.getInt(row, i);
        }, true);
    }

    long copy(int k, int i, int other, int j, int n) {
        fault = 0;
        if (!in(k, 0, 3) || !in(other, 0, 3)) {
            return -1;
        }
        return guarded(() -> {
            lengthOf(sheets[k]);
            lengthOf(sheets[other]);
            sheets[k].getClass().cast(sheets[other]);
            System.arraycopy(sheets[k], i, sheets[other], j, n);
            return n;
        }, false);
    }

    private void leave(int... bodies) {
        for (int body : bodies) {
            trace = 31 * trace + body;
        }
    }

    long tell(int p) {
        if (!isPlace(p)) {
            return -1;
        }
        int[][] bodies = {{1}, {2, 1}, {3, 2, 1, 1}};
        leave(bodies[kinds.get(p)]);
        return kinds.get(p) == 0 ? now.get(p) : kinds.get(p) == 1 ? now.get(p) + 100 : 2 * now.get(p) + 100;
    }

    long call(int p) {
        if (!isPlace(p)) {
            return -1;
        }
        leave(kinds.get(p) == 2 ? 5 : 4);
        return kinds.get(p) == 2 ? 60 : p;
    }

    long as(int p, int kind) {
        fault = 0;
        if (!isPlace(p)) {
            return -1;
        }
        if (!in(kind, 0, 2)) {
            return -2;
        }
        String[] isAlso = {"0", "01", "012"};
        return guarded(() -> {
            if (isAlso[kinds.get(p)].indexOf('0' + kind) < 0) {
                throw new ClassCastException();
            }
            return 1;
        }, false);
    }

    long trace() {
        return trace;
    }

    long fault() {
        return fault;
    }

    long many(int what) {
        switch (what) {
            case 0: return kinds.size();
            case 1: return base;
            case 2: return done;
            case 3: return zeros();
            case 4: return readings.size();
            default: return -2;
        }
    }
}
