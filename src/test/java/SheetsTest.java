/** Promises 19 to 29: sheet, lose, put, cell, copy, tell, call, as, trace, fault, many. */
public final class SheetsTest {
    private static final Due DUE = new Due("SheetsTest");
    private static final long LOST = DifferRings.LOST;

    public static void main(String[] args) {
        sheet();
        lose();
        put();
        cell();
        copy();
        copyFaults();
        tellAndCall();
        as();
        fault();
        many();
        DUE.end();
    }

    private static void row(String what, DifferRings x, int k, int lane, long... want) {
        DUE.row(what, want, i -> x.cell(k, (int) i, lane));
        DUE.is(what + ", beyond", x.cell(k, want.length, lane), LOST);
        DUE.is(what + ", beyond: fault()", x.fault(), 3);
    }

    private static void sheet() {
        DifferRings x = new DifferRings();
        for (int k = 0; k < 4; k++) {
            DUE.is("sheet " + k, x.sheet(k, k % 3, 2), 1);
            row("cells of sheet " + k, x, k, k % 3, 0, 0);
        }
        x.put(0, 1, 7);
        DUE.faults(x, "sheet 4", () -> x.sheet(4, 3, -1), -1, 0);
        DUE.faults(x, "sheet -1", () -> x.sheet(-1, 0, 1), -1, 0);
        DUE.faults(x, "lane 3", () -> x.sheet(0, 3, -1), -2, 0);
        DUE.faults(x, "lane -1", () -> x.sheet(0, -1, 1), -2, 0);
        DUE.faults(x, "n 61", () -> x.sheet(0, 0, 61), -2, 0);
        DUE.faults(x, "n -1", () -> x.sheet(0, 0, -1), -14, 4);
        DUE.faults(x, "least n", () -> x.sheet(0, 0, Integer.MIN_VALUE), -14, 4);
        row("kept", x, 0, 0, 0, 7);
        DUE.faults(x, "n 60", () -> x.sheet(0, 2, 60), 1, 0);
        DUE.is("the last of 60", x.put(0, 59, 1), 1);
        long[] sixty = new long[60];
        sixty[59] = 1;
        row("of another lane, all 0 but the last", x, 0, 2, sixty);
        x.sheet(0, 0, 0);
        row("none", x, 0, 0);
        DUE.faults(x, "none is not nothing", () -> x.put(0, 0, 1), -13, 3);
        x.sheet(0, 2, 60);
        DUE.is("anew, all 0", x.cell(0, 59, 2), 0);
    }

    private static void lose() {
        DifferRings x = new DifferRings();
        DUE.is("sheet 4", x.lose(4), -1);
        DUE.is("sheet -1", x.lose(-1), -1);
        x.sheet(2, 1, 0);
        DUE.is("had a row of none", x.lose(2), 1);
        DUE.is("has nothing", x.lose(2), 0);
        x.sheet(1, 1, 3);
        x.sheet(2, 1, 3);
        x.put(1, 1, 5);
        DUE.is("had a row", x.lose(2), 1);
        DUE.faults(x, "nothing", () -> x.cell(2, 0, 1), LOST, 1);
        DUE.is("the other one", x.cell(1, 1, 1), 5);
        x.sheet(2, 1, 3);
        row("a new row", x, 2, 1, 0, 0, 0);
    }

    private static void put() {
        DifferRings x = new DifferRings();
        DUE.faults(x, "sheet 4", () -> x.put(4, 0, 1), -1, 0);
        DUE.faults(x, "nothing", () -> x.put(0, -1, 1), -11, 1);
        int[] values = {127, 128, 255, 256, -129, 32768, 65535, -32769, Integer.MAX_VALUE, Integer.MIN_VALUE};
        for (int lane = 0; lane < 3; lane++) {
            x.sheet(lane, lane, values.length);
            for (int i = 0; i < values.length; i++) {
                int k = lane;
                int at = i;
                DUE.faults(x, "put " + values[i], () -> x.put(k, at, values[at]), 1, 0);
            }
        }
        row("bytes", x, 0, 0, 127, -128, -1, 0, 127, 0, -1, -1, -1, 0);
        row("shorts", x, 1, 1, 127, 128, 255, 256, -129, -32768, -1, 32767, -1, 0);
        row("ints", x, 2, 2, 127, 128, 255, 256, -129, 32768, 65535, -32769, Integer.MAX_VALUE, Integer.MIN_VALUE);
        DUE.faults(x, "i -1", () -> x.put(0, -1, 9), -13, 3);
        DUE.faults(x, "i as many", () -> x.put(0, 10, 9), -13, 3);
        DUE.faults(x, "greatest i", () -> x.put(0, Integer.MAX_VALUE, 9), -13, 3);
        DUE.is("kept", x.cell(0, 9, 0), 0);
    }

    private static void cell() {
        DifferRings x = new DifferRings();
        x.sheet(1, 1, 2);
        x.put(1, 1, -5);
        DUE.faults(x, "a cell", () -> x.cell(1, 1, 1), -5, 0);
        DUE.faults(x, "nothing is no cast", () -> x.cell(0, -1, 2), LOST, 1);
        DUE.faults(x, "cast", () -> x.cell(1, -1, 0), LOST, 2);
        DUE.faults(x, "i -1", () -> x.cell(1, -1, 1), LOST, 3);
        DUE.faults(x, "i 2", () -> x.cell(1, 2, 1), LOST, 3);
        DUE.faults(x, "sheet 4", () -> x.cell(4, 0, 1), LOST, 0);
        DUE.faults(x, "i 2 again", () -> x.cell(1, 2, 1), LOST, 3);
        DUE.faults(x, "lane 3", () -> x.cell(1, 0, 3), LOST, 0);
        DUE.faults(x, "lane -1", () -> x.cell(0, 0, -1), LOST, 0);
        DUE.faults(x, "sheet -1", () -> x.cell(-1, 0, 0), LOST, 0);
    }

    private static void copy() {
        DifferRings x = new DifferRings();
        Due.fill(x, 0, 1, 1, 2, 3, 4, 300);
        Due.fill(x, 1, 1, 9, 9, 9);
        DUE.faults(x, "to another", () -> x.copy(0, 3, 1, 0, 2), 2, 0);
        row("the other", x, 1, 1, 4, 300, 9);
        row("the first", x, 0, 1, 1, 2, 3, 4, 300);
        DUE.is("up in the same", x.copy(0, 0, 0, 1, 4), 4);
        row("moved up as they were", x, 0, 1, 1, 1, 2, 3, 4);
        DUE.is("down in the same", x.copy(0, 1, 0, 0, 4), 4);
        row("moved down as they were", x, 0, 1, 1, 2, 3, 4, 4);
        DUE.is("all on themselves", x.copy(0, 0, 0, 0, 5), 5);
        DUE.is("none", x.copy(0, 5, 1, 3, 0), 0);
        row("the first is kept", x, 0, 1, 1, 2, 3, 4, 4);
        row("the other is kept", x, 1, 1, 4, 300, 9);
    }

    private static void copyFaults() {
        DifferRings x = new DifferRings();
        Due.fill(x, 0, 1, 1, 2, 3);
        Due.fill(x, 1, 1, 4, 5);
        Due.fill(x, 2, 2, 6, 7);
        DUE.faults(x, "sheet 4", () -> x.copy(4, 0, 0, 0, 1), -1, 0);
        DUE.faults(x, "other 4", () -> x.copy(3, 0, 4, 0, 1), -1, 0);
        DUE.faults(x, "other -1", () -> x.copy(0, 0, -1, 0, 1), -1, 0);
        DUE.faults(x, "nothing", () -> x.copy(3, -1, 2, 0, 1), -11, 1);
        DUE.faults(x, "other nothing", () -> x.copy(2, -1, 3, 0, 1), -11, 1);
        DUE.faults(x, "both nothing", () -> x.copy(3, 0, 3, 0, 0), -11, 1);
        DUE.faults(x, "cast", () -> x.copy(0, -1, 2, 0, -1), -12, 2);
        DUE.faults(x, "i -1", () -> x.copy(0, -1, 1, 0, 0), -13, 3);
        DUE.faults(x, "j -1", () -> x.copy(0, 0, 1, -1, 0), -13, 3);
        DUE.faults(x, "n -1", () -> x.copy(0, 1, 1, 1, -1), -13, 3);
        DUE.faults(x, "i beyond, none", () -> x.copy(0, 4, 1, 0, 0), -13, 3);
        DUE.faults(x, "j beyond, none", () -> x.copy(0, 0, 1, 3, 0), -13, 3);
        DUE.faults(x, "beyond the first", () -> x.copy(0, 2, 1, 0, 2), -13, 3);
        DUE.faults(x, "beyond the other", () -> x.copy(0, 0, 1, 0, 3), -13, 3);
        DUE.faults(x, "far beyond", () -> x.copy(0, 1, 1, 1, Integer.MAX_VALUE), -13, 3);
        row("kept", x, 1, 1, 4, 5);
    }

    private static void tellAndCall() {
        DifferRings x = Due.ringOf("r6;p5;f3;m2");
        int trace = 0;
        int[][] bodies = {{1}, {2, 1}, {3, 2, 1, 1}};
        int[] told = {5, 103, 104};
        int[] called = {0, 1, 60};
        for (int round = 0; round < 3; round++) {
            for (int p = 0; p < 3; p++) {
                DUE.is("tell " + p, x.tell(p), told[p]);
                for (int body : bodies[p]) {
                    trace = 31 * trace + body;
                }
                DUE.is("trace of tell " + p, x.trace(), trace);
                DUE.is("call " + p, x.call(p), called[p]);
                trace = 31 * trace + (p == 2 ? 5 : 4);
                DUE.is("trace of call " + p, x.trace(), trace);
            }
        }
        DUE.is("tell 3", x.tell(3), -1);
        DUE.is("tell -1", x.tell(-1), -1);
        DUE.is("call 3", x.call(3), -1);
        DUE.is("call -1", x.call(-1), -1);
        DUE.is("trace is kept", x.trace(), trace);
        x.write(2, 5);
        DUE.is("tell what is written", x.tell(2), 110);
        DifferRings five = Due.ringOf("r2;p0;f0;m0;p0;f1");
        DUE.row("called", new long[] {0, 1, 60, 3, 4, -1}, p -> five.call((int) p));
    }

    private static void as() {
        DifferRings x = Due.ringOf("r6;p5;f3;m2");
        for (int p = 0; p < 3; p++) {
            for (int kind = 0; kind < 3; kind++) {
                int place = p;
                int other = kind;
                boolean is = kind <= p;
                DUE.faults(x, "as " + p + " " + kind, () -> x.as(place, other), is ? 1 : -12, is ? 0 : 2);
            }
        }
        x.as(0, 2);
        DUE.faults(x, "kind 3", () -> x.as(0, 3), -2, 0);
        x.as(0, 2);
        DUE.faults(x, "place 3", () -> x.as(3, 3), -1, 0);
        DUE.faults(x, "kind -1", () -> x.as(2, -1), -2, 0);
        DUE.faults(x, "place -1", () -> x.as(-1, 0), -1, 0);
    }

    /** Only a call that names FAULTS changes what fault() tells. */
    private static void fault() {
        DifferRings x = Due.ringOf("r6;p5;f3;m2");
        DUE.is("a fault", x.sheet(0, 0, -1), -14);
        x.ofPlace(9, 0);
        x.write(0, 1);
        x.steps(1);
        x.after(0, 1);
        x.now(0);
        x.from(0);
        x.rows(0);
        x.longest(0);
        x.few(0);
        x.reading(0, 0, 0);
        x.back(1);
        x.kinds(0);
        x.firsts(0);
        x.odds(0, 0, 0, 0);
        x.lose(0);
        x.lose(9);
        x.tell(0);
        x.call(0);
        x.trace();
        x.many(9);
        DUE.is("is told still", x.fault(), 4);
        DUE.is("and again", x.fault(), 4);
        x.as(0, 0);
        DUE.is("until a call that names one", x.fault(), 0);
    }

    private static void many() {
        DifferRings x = new DifferRings();
        DUE.row("no ring", new long[] {0, 0, 0, 0, 0, -2}, k -> x.many((int) k));
        DUE.is("many(-1)", x.many(-1), -2);
        Due.tell(x, "r6;p0;f1;m2;p0");
        DUE.row("a ring", new long[] {4, 6, 0, 2, 0, -2}, k -> x.many((int) k));
        x.steps(2);
        x.steps(98);
        x.steps(0);
        x.reading(0, 0, 0);
        DUE.is("steps done", x.many(2), 100);
        DUE.is("readings", x.many(4), 1);
        for (int p = 0; p < 4; p++) {
            x.write(p, 0);
            x.write(3 - p, 0);
        }
        DUE.is("all are 0", x.many(3), 4);
        DUE.is("many(-1)", x.many(-1), -2);
    }
}
