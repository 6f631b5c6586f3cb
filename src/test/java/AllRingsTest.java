import java.util.Arrays;

/**
 * Every RING there can be, by BASE and kinds (1800 of them), each with some of its ROWS, against tables of what each ROW
 * becomes that are walked plainly.
 */
public final class AllRingsTest {
    private static final Due DUE = new Due("AllRingsTest");
    private static final long MOST_AFTER = 1000000000000000000L;
    private static final int ROWS_ASKED = 4;

    private final int base;
    private final int[] kinds;
    private final int count;
    private final int[] next;
    private final boolean[] comesBack;
    private DifferRings x;

    private AllRingsTest(int base, int[] kinds) {
        this.base = base;
        this.kinds = kinds;
        count = (int) Math.pow(base, kinds.length);
        next = new int[count];
        for (int row = 0; row < count; row++) {
            next[row] = becomes(row);
        }
        comesBack = new boolean[count];
        Arrays.fill(comesBack, true);
        for (int s = 0; s < count && shrinks(); s++) {
            continue;
        }
    }

    public static void main(String[] args) {
        int rings = 0;
        for (int base = 2; base <= 6; base++) {
            for (int places = 2; places <= 5; places++) {
                for (int choice = 0; choice < Math.pow(3, places); choice++) {
                    int[] kinds = new int[places];
                    for (int p = 0, rest = choice; p < places; p++, rest /= 3) {
                        kinds[p] = rest % 3;
                    }
                    new AllRingsTest(base, kinds).ask(rings);
                    rings++;
                }
            }
        }
        DUE.is("rings", rings, 1800);
        DUE.end();
    }

    private int[] numbersOf(int row) {
        int[] numbers = new int[kinds.length];
        for (int p = kinds.length - 1, rest = row; p >= 0; p--, rest /= base) {
            numbers[p] = rest % base;
        }
        return numbers;
    }

    private int becomes(int row) {
        int[] now = numbersOf(row);
        int code = 0;
        for (int p = 0; p < now.length; p++) {
            int near = Math.abs(now[p] - now[(p + 1) % now.length]);
            int far = Math.abs(now[p] - now[(p + 2) % now.length]);
            int[] byKind = {near, far, (near + far) % base};
            code = code * base + byKind[kinds[p]];
        }
        return code;
    }

    /** What comes of all that are left: in the end those that come back. */
    private boolean shrinks() {
        boolean[] then = new boolean[count];
        for (int row = 0; row < count; row++) {
            then[next[row]] |= comesBack[row];
        }
        boolean less = !Arrays.equals(then, comesBack);
        System.arraycopy(then, 0, comesBack, 0, count);
        return less;
    }

    private int tail(int row) {
        int steps = 0;
        for (int at = row; !comesBack[at]; at = next[at]) {
            steps++;
        }
        return steps;
    }

    private int round(int row) {
        int first = walked(row, tail(row));
        int steps = 1;
        for (int at = next[first]; at != first; at = next[at]) {
            steps++;
        }
        return steps;
    }

    private int walked(int row, int steps) {
        int at = row;
        for (int s = 0; s < steps; s++) {
            at = next[at];
        }
        return at;
    }

    private boolean goesOut(int row) {
        return walked(row, tail(row)) == 0;
    }

    private void ask(int ring) {
        String text = "r" + base;
        for (int kind : kinds) {
            text += ";" + "pfm".charAt(kind) + "0";
        }
        x = Due.ringOf(text);
        askOfAll(text);
        // Other ROWS for each RING, that those near the first and the last one are among them.
        for (int k = 0; k < ROWS_ASKED; k++) {
            int row = (int) ((ring * 31L + k * 1009L + 7) % count);
            int[] numbers = numbersOf(row);
            for (int p = 0; p < numbers.length; p++) {
                x.write(p, numbers[p]);
            }
            String name = text + " with " + Arrays.toString(numbers);
            askOfRow(name, row);
            askFrom(name, row);
            askFew(name, numbers);
            askMeet(name, row, (int) ((row + 61L * (k + 1)) % count));
            askReadings(name, row);
        }
        askOdds(text, ring);
        askFarAhead(text, numbersOf((int) (ring * 17L % count)));
    }

    private void askOfAll(String text) {
        boolean[] made = new boolean[count];
        int[] sums = {count, 0, count, 0, 0};
        int longest = -1;
        int first = -1;
        for (int row = 0; row < count; row++) {
            sums[1] += next[row] == row ? 1 : 0;
            sums[2] -= made[next[row]] ? 0 : 1;
            made[next[row]] = true;
            sums[3] += goesOut(row) ? 1 : 0;
            sums[4] += comesBack[row] && isLeastOfRound(row) ? 1 : 0;
            if (tail(row) > longest) {
                longest = tail(row);
                first = row;
            }
        }
        for (int what = 0; what < 5; what++) {
            DUE.is(text + " rows " + what, x.rows(what), sums[what]);
        }
        DUE.is(text + " longest", x.longest(-1), longest);
        for (int k = 0; k < 5; k++) {
            DUE.is(text + " longest " + k, x.longest(k), k < kinds.length ? numbersOf(first)[k] : -9);
        }
    }

    private boolean isLeastOfRound(int row) {
        for (int at = next[row]; at != row; at = next[at]) {
            if (at < row) {
                return false;
            }
        }
        return true;
    }

    private void askOfRow(String name, int row) {
        DUE.is(name + " tail", x.now(0), tail(row));
        DUE.is(name + " round", x.now(1), round(row));
        DUE.is(name + " goes out", x.now(2), goesOut(row) ? 1 : 0);
        for (int p = 0; p < kinds.length; p++) {
            DUE.is(name + " next of " + p, x.ofPlace(p, 2), numbersOf(next[row])[p]);
            for (int t : new int[] {2, 99}) {
                DUE.is(name + " place " + p + " after " + t, x.after(p, t), numbersOf(walked(row, t))[p]);
            }
        }
    }

    private void askFrom(String name, int row) {
        int many = 0;
        int first = -1;
        for (int at = count - 1; at >= 0; at--) {
            if (next[at] == row) {
                many++;
                first = at;
            }
        }
        DUE.is(name + " from", x.from(-1), many);
        for (int k = 0; k < 5; k++) {
            int want = many > 0 && k < kinds.length ? numbersOf(first)[k] : -9;
            DUE.is(name + " from " + k, x.from(k), want);
        }
    }

    private void askFew(String name, int[] numbers) {
        for (int many = 0; many <= numbers.length; many++) {
            for (int set = 0; set < 1 << numbers.length; set++) {
                if (Integer.bitCount(set) == many && canGoOut(numbers, set)) {
                    DUE.is(name + " few", x.few(0), many);
                    DUE.is(name + " least set", x.few(1), set);
                    return;
                }
            }
        }
    }

    /** Tries all that can be written on the PLACES of a set, as many ways as there are. */
    private boolean canGoOut(int[] numbers, int set) {
        int ways = (int) Math.pow(base, Integer.bitCount(set));
        for (int way = 0; way < ways; way++) {
            int code = 0;
            int rest = way;
            for (int p = 0; p < numbers.length; p++) {
                boolean anew = (set >> p & 1) == 1;
                code = code * base + (anew ? rest % base : numbers[p]);
                rest = anew ? rest / base : rest;
            }
            if (goesOut(code)) {
                return true;
            }
        }
        return false;
    }

    private void askMeet(String name, int one, int other) {
        Due.fill(x, 0, 1, numbersOf(other));
        int want = -9;
        // Behind both TAILS each goes round, and those that are unlike then stay so.
        for (int s = Math.max(tail(one), tail(other)); s >= 0; s--) {
            if (walked(one, s) == walked(other, s)) {
                want = s;
            }
        }
        DUE.is(name + " meets " + Arrays.toString(numbersOf(other)), x.meet(0, 1, 0), want);
    }

    /** What stands behind a STEP and behind three is read, at the first PLACE and the last one. */
    private void askReadings(String name, int row) {
        int last = kinds.length - 1;
        int[] read = {numbersOf(next[row])[0], numbersOf(walked(row, 3))[last]};
        x.reading(1, 0, read[0]);
        x.reading(3, last, read[1]);
        for (int p = 0; p <= last; p++) {
            int set = 0;
            int[] numbers = numbersOf(row);
            for (int v = 0; v < base; v++) {
                numbers[p] = v;
                int code = 0;
                for (int number : numbers) {
                    code = code * base + number;
                }
                boolean so = numbersOf(next[code])[0] == read[0] && numbersOf(walked(code, 3))[last] == read[1];
                set |= so ? 1 << v : 0;
            }
            DUE.is(name + " firsts " + p, x.firsts(p), set);
            DUE.is(name + " kinds " + p, x.kinds(p), kindsBy(row, p, read));
        }
        x.back(2);
    }

    private int kindsBy(int row, int p, int[] read) {
        int is = kinds[p];
        int set = 0;
        for (int kind = 0; kind < 3; kind++) {
            kinds[p] = kind;
            int one = becomes(row);
            int three = becomes(becomes(one));
            boolean so = numbersOf(one)[0] == read[0] && numbersOf(three)[kinds.length - 1] == read[1];
            set |= so ? 1 << kind : 0;
        }
        kinds[p] = is;
        return set;
    }

    private void askOdds(String text, int ring) {
        for (int t : new int[] {0, 7, 2, 99, 1}) {
            int p = (ring + t) % kinds.length;
            long[] so = new long[6];
            for (int row = 0; row < count; row++) {
                so[numbersOf(walked(row, t))[p]]++;
            }
            for (int v = 0; v < 6; v++) {
                long upper = x.odds(p, t, v, 0);
                long lower = x.odds(p, t, v, 1);
                String name = text + " odds " + p + " " + t + " " + v;
                DUE.is(name, upper * count, so[v] * lower);
                DUE.is(name + " in least terms", greatestDivisor(upper, lower), 1);
                DUE.holds(name + " above 0", lower > 0);
            }
        }
    }

    private static long greatestDivisor(long a, long b) {
        return b == 0 ? a : greatestDivisor(b, a % b);
    }

    /** By tables of 1, 2, 4, .. STEPS at once, each made of the one ahead of it. */
    private void askFarAhead(String text, int[] numbers) {
        long[] times = {MOST_AFTER, MOST_AFTER - 1, 999999999999L};
        int[] at = new int[times.length];
        for (int p = 0; p < numbers.length; p++) {
            x.write(p, numbers[p]);
            for (int k = 0; k < times.length; k++) {
                at[k] = at[k] * base + numbers[p];
            }
        }
        int[] many = next.clone();
        for (int bit = 0; bit < 60; bit++) {
            for (int k = 0; k < times.length; k++) {
                at[k] = (times[k] >> bit & 1) == 1 ? many[at[k]] : at[k];
            }
            int[] twice = new int[count];
            for (int row = 0; row < count; row++) {
                twice[row] = many[many[row]];
            }
            many = twice;
        }
        for (int k = 0; k < times.length; k++) {
            for (int p = 0; p < numbers.length; p++) {
                DUE.is(text + " far ahead " + times[k], x.after(p, times[k]), numbersOf(at[k])[p]);
            }
        }
    }
}
