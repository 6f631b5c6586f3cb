/** Promises 5 to 7: steps, after, day. */
public final class StepsTest {
    private static final Due DUE = new Due("StepsTest");

    public static void main(String[] args) {
        steps();
        after();
        dayAnswers();
        dayWrong();
        dayOutsideAndFaults();
        DUE.end();
    }

    private static void steps() {
        DifferRings none = new DifferRings();
        DUE.is("no ring: steps(1)", none.steps(1), -3);
        DUE.is("no ring: steps(0)", none.steps(0), -2);
        DUE.is("no ring: steps(100)", none.steps(100), -2);
        DifferRings x = Due.ringOf("r6;p5;m4;m3;f2;m1");
        long[][] ways = {{1, 3, 3, 3, 1}, {2, 0, 2, 2, 2}, {2, 4, 0, 0, 2}, {2, 2, 2, 2, 2}, {0, 0, 0, 0, 0}};
        int[] zeros = {0, 1, 2, 0, 5};
        for (int s = 0; s < ways.length; s++) {
            DUE.is("step " + s, x.steps(1), zeros[s]);
            DUE.row("behind step " + s, ways[s], k -> x.ofPlace((int) k, 1));
            DUE.is("steps done", x.many(2), s + 1);
        }
        DifferRings y = Due.ringOf("r5;p4;f1;m3;p0");
        DUE.is("steps(5)", y.steps(5), 1);
        DUE.row("behind 5", new long[] {0, 1, 1, 1}, k -> y.ofPlace((int) k, 1));
        DUE.is("steps(99)", y.steps(99), 1);
        DUE.row("behind 104", new long[] {0, 1, 1, 1}, k -> y.ofPlace((int) k, 1));
        DUE.is("steps(0)", y.steps(0), -2);
        DUE.is("steps(-1)", y.steps(-1), -2);
        DUE.is("steps(100)", y.steps(100), -2);
        DUE.is("steps done", y.many(2), 104);
    }

    private static void after() {
        DifferRings x = Due.ringOf("r5;p4;f1;m3;p0");
        long most = 1000000000000000000L;
        long[][] ways = {{4, 1, 3, 0}, {3, 1, 4, 4}, {2, 3, 1, 1}, {1, 2, 1, 1}, {1, 1, 0, 0}, {0, 1, 1, 1},
            {1, 0, 1, 1}, {1, 1, 0, 0}};
        for (int t = 0; t < ways.length; t++) {
            long steps = t;
            DUE.row("behind " + t, ways[t], k -> x.after((int) k, steps));
        }
        // TAIL is 4, ROUND is 3, and the most, a one and zeros, leaves 1 by 3: it less 4 leaves 0.
        DUE.row("behind most", ways[4], k -> x.after((int) k, most));
        DUE.row("behind most less 1", ways[6], k -> x.after((int) k, most - 1));
        DUE.is("most and 1", x.after(0, most + 1), -2);
        DUE.is("greatest", x.after(0, Long.MAX_VALUE), -2);
        DUE.is("t -1", x.after(3, -1), -2);
        DUE.is("place 4", x.after(4, -1), -1);
        DUE.is("place -1", x.after(-1, 0), -1);
        DUE.row("nothing changed", ways[0], k -> x.ofPlace((int) k, 1));
        x.steps(6);
        DUE.row("from then on", ways[7], k -> x.after((int) k, 1));
        x.write(0, 4);
        x.write(1, 1);
        x.write(2, 3);
        x.write(3, 0);
        DUE.row("from what is written on", ways[3], k -> x.after((int) k, 3));
    }

    /** NUMBERS of the RING are 4 1 3 0 by kinds p f m p, BASE is 5. */
    private static DifferRings withActs(int... cells) {
        DifferRings x = Due.ringOf("r5;p4;f1;m3;p0");
        Due.fill(x, 1, 1, cells);
        return x;
    }

    private static void dayAnswers() {
        int[] whats = {0, 1, 2, 3, 4, 10, 11, 12, 13, 14};
        DifferRings x = withActs(7, 7, 2, 9, 4, 3, 0, 9, 1, 9);
        DUE.row("no acts", new long[] {8, -9, 0, 0, 4, 4, 1, 3, 0, -9}, k -> x.day(1, 1, 1, 0, whats[(int) k]));
        DUE.row("no acts at the end", new long[] {8, -9, 0, 0, 4, 4, 1, 3, 0, -9}, k -> x.day(1, 1, 10, 0, whats[(int) k]));
        // 2 STEPS: 2 3 1 1; PLACE 3 becomes 4: 2 3 1 4; 1 STEP: 1 1 4 2 (|2-3|, |3-4|, 3 and 1, |4-2|).
        DUE.row("four acts", new long[] {8, -9, 3, 0, 2, 1, 1, 4, 2, -9}, k -> x.day(1, 1, 2, 4, whats[(int) k]));
        DUE.row("nothing changed", new long[] {4, 1, 3, 0}, k -> x.ofPlace((int) k, 1));
        DUE.is("no step was done", x.many(2), 0);
        DifferRings out = withActs(0, 0, 0, 1, 0, 2, 0, 3, 99, 9, 3, 1, 0, 1, 0, 9);
        DUE.row("out behind none", new long[] {0, 0, 0}, k -> out.day(1, 1, 0, (int) k, 3));
        DUE.is("out by three, as the last is 0", out.day(1, 1, 0, 3, 0), 0);
        DUE.is("out behind the third act", out.day(1, 1, 0, 3, 3), 1);
        DUE.is("out behind two acts", out.day(1, 1, 0, 4, 3), 2);
        DUE.is("out behind three acts", out.day(1, 1, 0, 5, 3), 3);
        DUE.is("out no more", out.day(1, 1, 0, 6, 3), 3);
        DUE.is("out again", out.day(1, 1, 0, 8, 3), 5);
        DUE.is("steps of it", out.day(1, 1, 0, 8, 2), 99);
        DUE.is("tail of it", out.day(1, 1, 0, 8, 4), 0);
        DifferRings five = Due.ringOf("r6;p0;f1;m2;p3;f5");
        Due.fill(five, 2, 2, 1, 9);
        DUE.row("of five", new long[] {13, -9, 1, 0, 1, 1, 2, 4, 2, 4}, k -> five.day(2, 2, 0, 1, whats[(int) k]));
        Due.tell(five, "r2;p0;p1");
        DUE.row("of two then", new long[] {2, -9, 1, 0, 1, 1, 1, -9, -9, -9}, k -> five.day(2, 2, 0, 1, whats[(int) k]));
        DifferRings many = withActs(new int[40]);
        DUE.is("20 acts", many.day(1, 1, 0, 20, 0), 4);
        DUE.is("fault", many.fault(), 0);
    }

    private static void dayWrong() {
        int[] whats = {0, 1, 2, 3, 4, 10, 11, 12, 13, 14};
        DifferRings place = withActs(1, 9, 0, 3, 0, 4, 5, 0);
        long[] third = {-102, 2, -102, -102, -102, -102, -102, -102, -102, -102};
        DUE.row("no such place", third, k -> place.day(1, 1, 0, 4, whats[(int) k]));
        DUE.is("without it", place.day(1, 1, 0, 2, 1), -9);
        DifferRings number = withActs(5, 0, 4, 0);
        DUE.row("number too great", new long[] {-100, 0, -100}, k -> number.day(1, 1, 0, 2, (int) k));
        DUE.is("the greatest number", number.day(1, 1, 2, 1, 0), 8);
        DifferRings two = Due.ringOf("r2;p0;p1");
        Due.fill(two, 0, 2, 1, 1, 1, 2);
        DUE.is("two places, the third", two.day(0, 2, 0, 2, 1), 1);
        DUE.is("place 2 is asked", two.day(0, 2, 0, 1, 12), -9);
        DUE.is("place 1 is asked", two.day(0, 2, 0, 1, 11), 1);
        DUE.is("wrong, though place 2 is asked", two.day(0, 2, 0, 2, 12), -101);
    }

    private static void dayOutsideAndFaults() {
        DifferRings none = new DifferRings();
        DUE.faults(none, "no ring: sheet", () -> none.day(4, 3, 0, 0, 0), -1, 0);
        DUE.faults(none, "no ring: what", () -> none.day(0, 0, 0, 0, 5), -2, 0);
        DUE.faults(none, "no ring", () -> none.day(0, 0, 0, 0, 0), -3, 0);
        DifferRings x = withActs(1, 9, 0, 5, 0, 8, 0, 10, 6, 0, -1, 0, 100, 9, -1, 9, 0, -1, 0, 4, 300, 3);
        long[] pairs = {1, -2, -2, -2, -2, -2, -2, -2, -2, -100, -2};
        for (int k = 0; k < pairs.length; k++) {
            int at = 2 * k;
            DUE.faults(x, "pair " + k, () -> x.day(1, 1, at, 1, 2), pairs[k], 0);
        }
        DUE.is("what 1, too", x.day(1, 1, 0, 2, 1), -2);
        DUE.is("outside behind a wrong act", x.day(1, 1, 18, 2, 0), -2);
        DUE.is("sheet 4", x.day(4, 1, 0, 1, 0), -1);
        DUE.is("lane 3", x.day(1, 3, 0, 1, 0), -2);
        DUE.is("n 21", x.day(1, 1, 0, 21, 0), -2);
        DUE.is("n -1", x.day(1, 1, 0, -1, 0), -2);
        for (int what : new int[] {-1, 5, 9, 15}) {
            DUE.is("what " + what, x.day(1, 1, 0, 1, what), -2);
        }
        DUE.faults(x, "cast", () -> x.day(1, 0, -1, 1, 0), -12, 2);
        DUE.faults(x, "nothing", () -> x.day(0, 0, -1, 1, 0), -11, 1);
        DUE.faults(x, "i below", () -> x.day(1, 1, -1, 0, 0), -13, 3);
        DUE.faults(x, "i beyond", () -> x.day(1, 1, 23, 0, 0), -13, 3);
        DUE.faults(x, "half a pair", () -> x.day(1, 1, 21, 1, 0), -13, 3);
        DUE.faults(x, "index ahead of a pair outside", () -> x.day(1, 1, 2, 20, 0), -13, 3);
        DUE.faults(x, "refused", () -> x.day(1, 1, 0, 21, 0), -2, 0);
    }
}
