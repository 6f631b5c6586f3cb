import java.util.ArrayList;
import java.util.Arrays;
import java.util.List;
import java.util.function.Supplier;

/**
 * Every call with every choice of values at and beyond the edges of each of them, answered by the class and by the
 * model: whichever several refusals and FAULTS come together, the first in the document's order is told.
 */
public final class EdgesTest {
    private static final long LEAST = Integer.MIN_VALUE, MOST = Integer.MAX_VALUE;
    private static final long[] SHEETS = {LEAST, -1, 0, 1, 2, 3, 4, MOST};
    private static final long[] LANES = {LEAST, -1, 0, 1, 2, 3, MOST};
    private static final long[] PLACES = {LEAST, -1, 0, 1, 2, 3, 4, 5, MOST};
    private static final long[] NUMBERS = {LEAST, -1, 0, 1, 2, 4, 5, 6, MOST};
    private static final long[] TIMES = {LEAST, -1, 0, 1, 98, 99, 100, MOST};
    private static final long[] CELLS = {LEAST, -1, 0, 1, 2, 7, 8, 9, 14, 15, 60, MOST};
    private static final long[] WHATS = {LEAST, -2, -1, 0, 1, 2, 3, 4, 5, 6, MOST};
    private static final long[] DAY_WHATS = {LEAST, -1, 0, 1, 2, 3, 4, 5, 9, 10, 11, 12, 13, 14, 15, MOST};
    private static final long[] PAIRS = {LEAST, -1, 0, 1, 2, 4, 20, 21, 1 << 30, MOST};
    private static final long[] LENGTHS = {LEAST, -1, 0, 1, 59, 60, 61, MOST};
    private static final long[] VALUES = {LEAST, -129, -1, 0, 127, 128, 32768, MOST};
    private static final long[] FAR_TIMES = {Long.MIN_VALUE, -1, 0, 1, 7, MOST, 999999999999999999L,
        1000000000000000000L, 1000000000000000001L, Long.MAX_VALUE};
    private static final long[] NO_VALUE = {0};

    private final Due due = new Due("EdgesTest");
    private final List<long[]> story = new ArrayList<>();
    private DifferRings x;
    private Model m;

    public static void main(String[] args) {
        EdgesTest test = new EdgesTest();
        test.nothing();
        test.sheetsAlone();
        test.ringOf("r5;p4;f1;m3;p0");
        test.ringOf("r2;m1;p0");
        test.ringOf("r3;f2;m1;p0");
        test.fullOfReadings();
        test.due.end();
    }

    private void nothing() {
        story.clear();
        askAll("a new object");
    }

    private void sheetsAlone() {
        story.clear();
        tellSheets();
        askAll("no ring");
    }

    private void ringOf(String text) {
        story.clear();
        tellRing(text);
        tellSheets();
        tell("reading", 0, 0, 1);
        askAll(text);
    }

    private void fullOfReadings() {
        story.clear();
        tellRing("r4;p1;m1;f2");
        for (int k = 0; k < 8; k++) {
            tell("reading", 0, 0, 1);
        }
        askAll("full of readings");
    }

    private void tell(String name, long... v) {
        long[] call = new long[6];
        call[0] = Calls.numberOf(name);
        System.arraycopy(v, 0, call, 1, v.length);
        story.add(call);
    }

    private void tellRing(String text) {
        fill(3, 0, Due.codes(text));
        tell("ring", 3, 0, 0, text.length());
    }

    /** Bytes with acts that can be, ints with a ROW and pairs that can't be; SHEET 2 has nothing. */
    private void tellSheets() {
        fill(0, 0, 1, 0, 2, 9, 1, 1, 0, 4);
        fill(1, 2, 0, 1, 0, 1, 1, 6, 0, 9);
    }

    private void fill(int k, int lane, int... cells) {
        tell("sheet", k, lane, cells.length);
        for (int i = 0; i < cells.length; i++) {
            tell("put", k, i, cells[i]);
        }
    }

    private void begin() {
        x = new DifferRings();
        m = new Model();
        for (long[] call : story) {
            long[] v = Arrays.copyOfRange(call, 1, 6);
            due.is("to begin with", Calls.ofClass(x, (int) call[0], v), Calls.ofModel(m, (int) call[0], v));
        }
    }

    private void askAll(String where) {
        edges(where, "ring", SHEETS, LANES, CELLS, CELLS);
        edges(where, "ofPlace", PLACES, WHATS);
        edges(where, "write", PLACES, NUMBERS);
        edges(where, "steps", TIMES);
        edges(where, "after", PLACES, FAR_TIMES);
        edges(where, "day", SHEETS, LANES, CELLS, PAIRS, DAY_WHATS);
        edges(where, "now", WHATS);
        edges(where, "from", WHATS);
        edges(where, "rows", WHATS);
        edges(where, "longest", WHATS);
        edges(where, "meet", SHEETS, LANES, CELLS);
        edges(where, "few", WHATS);
        edges(where, "reading", TIMES, PLACES, NUMBERS);
        edges(where, "back", new long[] {LEAST, -1, 0, 1, 2, 7, 8, 9, MOST});
        edges(where, "kinds", PLACES);
        edges(where, "firsts", PLACES);
        edges(where, "odds", PLACES, new long[] {LEAST, -1, 0, 1, 99, 100, MOST}, NUMBERS, new long[] {LEAST, -1, 0, 1, 2, MOST});
        edges(where, "sheet", SHEETS, LANES, LENGTHS);
        edges(where, "lose", SHEETS);
        edges(where, "put", SHEETS, CELLS, VALUES);
        edges(where, "cell", SHEETS, CELLS, LANES);
        edges(where, "copy", SHEETS, new long[] {LEAST, -1, 0, 1, 8, 9, MOST}, SHEETS, new long[] {LEAST, -1, 0, 7, 8, 9, MOST},
            new long[] {LEAST, -1, 0, 1, 7, 8, 9, MOST});
        edges(where, "tell", PLACES);
        edges(where, "call", PLACES);
        edges(where, "as", PLACES, WHATS);
        edges(where, "trace", NO_VALUE);
        edges(where, "fault", NO_VALUE);
        edges(where, "many", WHATS);
    }

    private void edges(String where, String name, long[]... values) {
        begin();
        int which = Calls.numberOf(name);
        int count = 1;
        for (long[] row : values) {
            count *= row.length;
        }
        for (int choice = 0; choice < count; choice++) {
            long[] v = new long[5];
            int rest = choice;
            for (int k = 0; k < values.length; k++) {
                v[k] = values[k][rest % values[k].length];
                rest /= values[k].length;
            }
            ask(where, which, v);
        }
    }

    /** What a call that is not refused has changed is taken back by beginning again. */
    private void ask(String where, int which, long[] v) {
        // A FAULT ahead of the call, and none in every other one.
        boolean odd = (Arrays.hashCode(v) & 1) == 1;
        x.sheet(0, 0, odd ? -1 : 61);
        m.sheet(0, 0, odd ? -1 : 61);
        Supplier<String> call = () -> where + ": " + Calls.NAMES[which] + " " + Arrays.toString(v);
        long answer = Calls.ofClass(x, which, v);
        due.is(call, answer, Calls.ofModel(m, which, v));
        due.is(() -> call.get() + ", then fault()", x.fault(), m.fault());
        for (int what = 0; what < 5; what++) {
            due.is(() -> call.get() + ", then many()", x.many(what), m.many(what));
        }
        due.is(() -> call.get() + ", then trace()", x.trace(), m.trace());
        if (answer >= 0 && !Calls.NAMES[which].equals("day") && !Calls.NAMES[which].equals("odds")) {
            begin();
        }
    }
}
