import java.util.Arrays;
import java.util.Random;

/** Runs of calls by chance (always the same ones), each answered by the class and by the model. */
public final class ModelTest {
    private static final int RUNS = 400;
    private static final int CALLS = 500;
    private final Due due = new Due("ModelTest");
    private final Random chance = new Random(20261117);
    private DifferRings x;
    private Model m;

    public static void main(String[] args) {
        ModelTest test = new ModelTest();
        for (int run = 0; run < RUNS; run++) {
            test.run(run);
        }
        test.due.end();
    }

    private void run(int run) {
        x = new DifferRings();
        m = new Model();
        int calls = 0;
        while (calls < CALLS - 64) {
            if (chance.nextInt(25) == 0) {
                calls += text(run);
            } else if (chance.nextInt(20) == 0) {
                calls += numbers(run);
            } else if (chance.nextInt(20) == 0) {
                calls += trueReading(run);
            } else {
                ask(run, chance.nextInt(Calls.NAMES.length));
                calls++;
            }
            due.is("run " + run + " fault()", x.fault(), m.fault());
            calls++;
        }
    }

    private void fill(int run, int k, int lane, int[] cells) {
        due.is("run " + run + " sheet", x.sheet(k, lane, cells.length), m.sheet(k, lane, cells.length));
        for (int i = 0; i < cells.length; i++) {
            due.is("run " + run + " put", x.put(k, i, cells[i]), m.put(k, i, cells[i]));
        }
    }

    /** A TEXT, often one with a fault. */
    private int text(int run) {
        int places = chance.nextInt(6) == 0 ? chance.nextInt(8) : 2 + chance.nextInt(4);
        StringBuilder text = new StringBuilder("r");
        int base = 2 + chance.nextInt(5);
        text.append(base);
        for (int p = 0; p < places; p++) {
            text.append(';').append("pfm".charAt(chance.nextInt(3))).append(chance.nextInt(base));
        }
        if (chance.nextInt(4) == 0) {
            text.setCharAt(chance.nextInt(text.length()), "rpfm;0123456789x".charAt(chance.nextInt(16)));
        }
        if (chance.nextInt(8) == 0) {
            text.setLength(chance.nextInt(text.length()));
        }
        int[] codes = Due.codes(text.toString());
        int k = chance.nextInt(4);
        int lane = chance.nextInt(3);
        fill(run, k, lane, codes);
        int i = chance.nextInt(8) == 0 ? 1 : 0;
        int n = codes.length - i;
        due.is("run " + run + " ring of " + text, x.ring(k, lane, i, n), m.ring(k, lane, i, n));
        return codes.length + 2;
    }

    /** Pairs that are acts, mostly; a ROW, too, where they are small. */
    private int numbers(int run) {
        int[] cells = new int[chance.nextInt(14)];
        for (int i = 0; i < cells.length; i++) {
            boolean odd = i % 2 == 1;
            cells[i] = odd && chance.nextInt(3) == 0 ? 9 : chance.nextInt(chance.nextInt(4) == 0 ? 6 : 3);
        }
        int k = chance.nextInt(4);
        int lane = chance.nextInt(3);
        fill(run, k, lane, cells);
        int calls = cells.length + 1;
        for (int what : new int[] {0, 1, 2, 3, 4, 10, 11, 12, 13, 14}) {
            int n = chance.nextInt(cells.length / 2 + 1);
            due.is("run " + run + " day " + what, x.day(k, lane, 0, n, what), m.day(k, lane, 0, n, what));
            calls++;
        }
        for (int i = 0; i < 3; i++) {
            due.is("run " + run + " meet", x.meet(k, lane, i), m.meet(k, lane, i));
            calls++;
        }
        return calls;
    }

    /** A READING that is so, that the sets are not empty each time. */
    private int trueReading(int run) {
        int t = chance.nextInt(chance.nextInt(2) == 0 ? 3 : 100);
        int p = chance.nextInt(5);
        int v = (int) m.after(p, t);
        due.is("run " + run + " true reading", x.reading(t, p, v), m.reading(t, p, v));
        for (int q = 0; q < 5; q++) {
            due.is("run " + run + " kinds " + q, x.kinds(q), m.kinds(q));
            due.is("run " + run + " firsts " + q, x.firsts(q), m.firsts(q));
        }
        return 11;
    }

    private int some(int least, int most) {
        int wild = chance.nextInt(60);
        if (wild == 0) {
            return Integer.MAX_VALUE;
        }
        if (wild == 1) {
            return Integer.MIN_VALUE;
        }
        return least - 1 + chance.nextInt(most - least + 3);
    }

    private static final int[][] RANGES = {
        {0, 3, 0, 2, 0, 5, 0, 20}, {0, 4, 0, 2}, {0, 4, 0, 5}, {1, 99}, {0, 4}, {0, 3, 0, 2, 0, 3, 0, 4, 0, 14}, {0, 2},
        {-1, 4}, {0, 4}, {-1, 4}, {0, 3, 0, 2, 0, 9}, {0, 1}, {0, 9, 0, 4, 0, 3}, {0, 2}, {0, 4}, {0, 4},
        {0, 4, 0, 12, 0, 5, 0, 1}, {0, 3, 0, 2, 0, 20}, {0, 3}, {0, 3, 0, 20, -300, 300}, {0, 3, 0, 20, 0, 2},
        {0, 3, 0, 9, 0, 3, 0, 9, 0, 9}, {0, 4}, {0, 4}, {0, 4, 0, 2}, {}, {}, {0, 4}};

    private void ask(int run, int which) {
        int[] range = RANGES[which];
        long[] v = new long[5];
        for (int k = 0; 2 * k < range.length; k++) {
            v[k] = some(range[2 * k], range[2 * k + 1]);
        }
        if (which == Calls.numberOf("after")) {
            v[1] = chance.nextInt(2) == 0 ? chance.nextInt(20) - 1 : (chance.nextLong() >>> 4) + chance.nextInt(2);
        }
        String call = "run " + run + " " + Calls.NAMES[which] + " " + Arrays.toString(v);
        due.is(call, Calls.ofClass(x, which, v), Calls.ofModel(m, which, v));
    }
}
