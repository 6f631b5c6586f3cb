import java.util.Arrays;

/** The document's part 2, and promises 5 to 7: steps, after, day. */
final class StepsBounds {
    /** By this RING: TAIL is 4, ROUND is 3. */
    private static final String TEXT = "r5;p4;f1;m3;p0";
    private static final long[][] WAY = {{4, 1, 3, 0}, {3, 1, 4, 4}, {2, 3, 1, 1}, {1, 2, 1, 1}, {1, 1, 0, 0},
        {0, 1, 1, 1}, {1, 0, 1, 1}, {1, 1, 0, 0}};
    private static final long MOST_STEPS = 1000000000000000000L;
    private static final int[] WHATS = {0, 1, 2, 3, 4, 10, 11, 12, 13, 14};

    private final Bounds b;

    StepsBounds(Bounds b) {
        this.b = b;
    }

    void run() {
        part();
        steps();
        after();
        dayAnswers();
        dayRefused();
        dayPairs();
    }

    private static long[] behind(long t) {
        return WAY[(int) (t < 4 ? t : 4 + (t - 4) % 3)];
    }

    /** TEXT on SHEET 3, acts as shorts on SHEET 1, nothing on SHEET 2. */
    private static DifferRings withActs(String text, int... cells) {
        DifferRings x = Due.ringOf(text);
        Due.fill(x, 0, 0, 7, 7, 7);
        Due.fill(x, 1, 1, cells);
        return x;
    }

    private static long day(String text, int what, int... cells) {
        return withActs(text, cells).day(1, 1, 0, cells.length / 2, what);
    }

    private void numbersThen(String call, long[] want, int... cells) {
        b.row(call + ", number", 0, want, p -> day(TEXT, 10 + (int) p, cells));
    }

    private void part() {
        b.section("Part 2");
        b.says("STEPS are done; NUMBERS are written.", () -> {
            DifferRings x = Due.ringOf(TEXT);
            x.steps(1);
            b.row("a step is done", 0, WAY[1], p -> x.ofPlace((int) p, 1));
            x.write(0, 0);
            b.row("a number is written", 0, new long[] {0, 1, 4, 4}, p -> x.ofPlace((int) p, 1));
        });
        b.says("A DAY told: a row of pairs, one behind another", () -> {
            numbersThen("no pairs", WAY[0]);
            numbersThen("one", WAY[1], 1, 9);
            numbersThen("two", new long[] {3, 1, 4, 2}, 1, 9, 2, 3);
            numbersThen("the other way about", new long[] {3, 1, 2, 2}, 2, 3, 1, 9);
            numbersThen("the later one stands", new long[] {2, 1, 3, 0}, 3, 0, 2, 0);
        });
        b.says("from how all is now (nothing is changed)", () -> {
            DifferRings x = withActs(TEXT, 1, 9, 0, 0);
            x.steps(1);
            x.write(2, 0);
            // 3 1 0 4 becomes 2 3 and 2 (4 and 3 over 5), 1; then 0 at the first.
            b.row("number", 0, new long[] {0, 3, 2, 1}, p -> x.day(1, 1, 0, 2, 10 + (int) p));
            b.row("once more", 0, new long[] {0, 3, 2, 1}, p -> x.day(1, 1, 0, 2, 10 + (int) p));
            b.is("steps that were done", x.many(2), 1);
            DifferRings twice = withActs("r2;p0;p0", 1, 2, 0, 9, 9, 9);
            b.is("a wrong one", twice.day(1, 1, 0, 1, 0), -100);
            b.is("a right one behind it", twice.day(1, 1, 2, 2, 1), -9);
            b.row("its outs, each time", 0, new long[] {2, 2, 2}, k -> twice.day(1, 1, 2, 2, 3));
            b.row("its steps, each time", 0, new long[] {9, 9, 9}, k -> twice.day(1, 1, 2, 2, 2));
            b.is("the wrong one again", twice.day(1, 1, 0, 3, 1), 0);
            for (int what : WHATS) {
                long want = Bounds.full().day(1, 1, 0, 2, what);
                DifferRings asked = Bounds.full();
                b.is("what " + what, asked.day(1, 1, 0, 2, what), want);
                b.holds("what " + what + " changes nothing", State.of(asked).equals(State.of(Bounds.full())));
            }
        });
        b.says("so many (0 .. 99) and 9: so many STEPS", () -> {
            for (int n : new int[] {0, 1, 2, 3, 4, 98, 99}) {
                numbersThen(n + " steps", behind(n), n, 9);
                b.is(n + " steps in it", day(TEXT, 2, n, 9), n);
            }
            numbersThen("99 and 99 steps", behind(198), 99, 9, 99, 9);
        });
        b.says("a number (0 .. 5) and 0 .. 4: NUMBER of that PLACE becomes that", () -> {
            String five = "r6;p1;f1;m1;p1;f1";
            for (int p = 0; p < 5; p++) {
                for (int v = 0; v <= 5; v++) {
                    for (int q = 0; q < 5; q++) {
                        b.is(v + " at " + p + ", number " + q, day(five, 10 + q, v, p), q == p ? v : 1);
                    }
                }
            }
        });
        b.says("FIRST WRONG: the first act that can't be (there is no such PLACE, the number is not less than BASE)",
            () -> {
                for (int places = 2; places <= 5; places++) {
                    String text = "r6" + ";p5".repeat(places);
                    for (int p = 0; p < 5; p++) {
                        b.is("place " + p + " of " + places, day(text, 1, 0, p), p < places ? -9 : 0);
                    }
                }
                for (int base = 2; base <= 6; base++) {
                    String text = "r" + base + ";p0;p1";
                    for (int v = 0; v <= 5; v++) {
                        b.is(v + " of base " + base, day(text, 1, v, 1), v < base ? -9 : 0);
                    }
                }
                b.is("of two the first", day(TEXT, 1, 1, 9, 0, 4, 0, 0, 5, 0), 1);
                b.is("both are wrong of one", day(TEXT, 1, 5, 4), 0);
                int[] twenty = new int[40];
                twenty[38] = 5;
                b.is("the last of 20", day(TEXT, 1, twenty), 19);
            });
    }

    private void steps() {
        b.section("Promise 5");
        b.says("n STEPS (1 .. 99): how many NUMBERS are 0 then", () -> {
            for (int n = 1; n <= 99; n++) {
                DifferRings x = Due.ringOf(TEXT);
                long zeros = Arrays.stream(behind(n)).filter(v -> v == 0).count();
                b.is("steps(" + n + ")", x.steps(n), zeros);
                b.row("number behind " + n, 0, behind(n), p -> x.ofPlace((int) p, 1));
                b.is("steps that were done", x.many(2), n);
            }
            b.is("all are 0", Due.ringOf("r2;p1;p1").steps(1), 2);
            b.is("all five are 0", Due.ringOf("r6;p5;f5;m5;p5;f5").steps(1), 5);
            b.is("none is 0", Due.ringOf("r2;p0;p1").steps(1), 0);
        });
        b.says("OUTSIDE", () -> {
            for (int n : Bounds.beyond(1, 99)) {
                b.refused(Bounds::full, "steps(" + n + ")", -2, x -> x.steps(n));
                b.refused(Bounds::withoutRing, "ahead of no ring, " + n, -2, x -> x.steps(n));
            }
        });
        b.says("STATE: there is no RING", () -> {
            b.refused(Bounds::withoutRing, "the least", -3, x -> x.steps(1));
            b.refused(Bounds::withoutRing, "the most", -3, x -> x.steps(99));
        });
    }

    /** NUMBERS of a RING so many STEPS on, by STEPS that are done on another one that is as it. */
    private static long[] numbersBehind(DifferRings x, int steps) {
        StringBuilder text = new StringBuilder("r" + x.many(1));
        for (int p = 0; p < x.many(0); p++) {
            text.append(';').append("pfm".charAt(x.ofPlace(p, 0))).append(x.ofPlace(p, 1));
        }
        DifferRings walker = Due.ringOf(text.toString());
        walker.steps(steps);
        long[] numbers = new long[x.many(0)];
        Arrays.setAll(numbers, p -> walker.ofPlace(p, 1));
        return numbers;
    }

    private void after() {
        b.section("Promise 6");
        b.says("NUMBER of a PLACE behind t STEPS more (0 .. 1000000000000000000)", () -> {
            DifferRings x = Due.ringOf(TEXT);
            for (long t = 0; t <= 20; t++) {
                long steps = t;
                b.row(t + " steps on, place", 0, behind(t), p -> x.after((int) p, steps));
                b.row(t + " less than the most, place", 0, behind(MOST_STEPS - t), p -> x.after((int) p, MOST_STEPS - steps));
            }
            long ints = Bounds.MOST;
            b.row("as many as ints tell", 0, behind(ints), p -> x.after((int) p, ints));
            b.row("one more than ints tell", 0, behind(ints + 1), p -> x.after((int) p, ints + 1));
            b.row("all bits of an int", 0, behind(2 * ints + 1), p -> x.after((int) p, 2 * ints + 1));
            b.row("number is kept", 0, WAY[0], p -> x.ofPlace((int) p, 1));
            x.steps(3);
            b.row("more than three, place", 0, WAY[4], p -> x.after((int) p, 1));
            b.row("none more than three, place", 0, WAY[3], p -> x.after((int) p, 0));
            b.is("the last of five", Due.ringOf("r6;p0;f1;m2;p3;f5").after(4, 1), 4);
            DifferRings out = Due.ringOf("r6;p5;p0");
            b.row("out, the most on, place", 0, new long[] {0, 0, -1}, p -> out.after((int) p, MOST_STEPS));
            DifferRings stays = Due.ringOf("r6;f5;p0");
            b.row("one that stays, the most on, place", 0, new long[] {0, 5, -1}, p -> stays.after((int) p, MOST_STEPS));
            DifferRings goes = Due.ringOf("r4;m0;m0;m0;m0;m1");
            // It goes round by 45, of which the most leaves 10, and its TAIL is less than 10.
            b.row("a long round, the most on, place", 0, numbersBehind(goes, 55), p -> goes.after((int) p, MOST_STEPS));
        });
        b.says("UNKNOWN", () -> {
            for (int p : Bounds.beyond(0, 3)) {
                b.refused(Bounds::full, "place " + p, -1, x -> x.after(p, 0));
                b.refused(Bounds::full, "place " + p + " ahead of t below", -1, x -> x.after(p, -1));
                b.refused(Bounds::full, "place " + p + " ahead of t above", -1, x -> x.after(p, MOST_STEPS + 1));
            }
            b.refused(Bounds::withoutRing, "no ring", -1, x -> x.after(0, 0));
        });
        b.says("OUTSIDE: t below 0, above that", () -> {
            for (long t : new long[] {-1, MOST_STEPS + 1, Long.MIN_VALUE, Long.MAX_VALUE, Bounds.LEAST, -MOST_STEPS}) {
                b.refused(Bounds::full, "t " + t, -2, x -> x.after(0, t));
                b.refused(Bounds::full, "the last place, t " + t, -2, x -> x.after(3, t));
            }
        });
    }

    private void dayAnswers() {
        b.section("Promise 7");
        b.says("A DAY of n pairs, that are cells of a SHEET from i on (2 n)", () -> {
            for (int k = 0; k < 4; k++) {
                for (int lane = 0; lane < 3; lane++) {
                    int sheet = k;
                    int as = lane;
                    Bounds.Maker maker = () -> onSheet(sheet, as, 8, 4, 3, 1, 9, 8);
                    b.taken(maker, "none", 8, x -> x.day(sheet, as, 0, 0, 0));
                    b.taken(maker, "none behind the last", 8, x -> x.day(sheet, as, 6, 0, 0));
                    b.taken(maker, "two", 0, x -> x.day(sheet, as, 1, 2, 13));
                    b.taken(maker, "the later one", 4, x -> x.day(sheet, as, 3, 1, 13));
                }
            }
            int[] sixty = new int[60];
            sixty[58] = 99;
            sixty[59] = 9;
            DifferRings x = withActs(TEXT, sixty);
            b.is("20 pairs", x.day(1, 1, 0, 20, 2), 0);
            b.is("20 pairs to the last cell", x.day(1, 1, 20, 20, 2), 99);
            b.is("one pair at the last cells", x.day(1, 1, 58, 1, 2), 99);
        });
        b.says("all NUMBERS together then (what 0)", () -> {
            b.is("all are 0", day("r6;p5;f5;m5;p5;f5", 0, 1, 9), 0);
            b.is("all are 5", day("r6;p5;f5;m5;p5;f5", 0), 25);
            b.is("of two", day("r2;p1;p0", 0), 1);
            b.is("behind a step", day(TEXT, 0, 1, 9), 12);
        });
        b.says("its FIRST WRONG (1; NONE)", () -> {
            b.is("none of none", day(TEXT, 1), -9);
            b.is("none of one", day(TEXT, 1, 4, 3), -9);
            b.is("the first", day(TEXT, 1, 5, 3), 0);
            b.is("the second", day(TEXT, 1, 4, 3, 4, 4), 1);
            b.is("two wrong ones", day(TEXT, 1, 4, 3, 4, 4, 0, 9, 5, 3), 1);
        });
        b.says("how many STEPS are done in it (2)", () -> {
            b.is("none", day(TEXT, 2), 0);
            b.is("no step is done by a number", day(TEXT, 2, 4, 3), 0);
            b.is("no steps", day(TEXT, 2, 0, 9), 0);
            b.is("of several", day(TEXT, 2, 3, 9, 4, 3, 2, 9), 5);
            int[] most = new int[40];
            for (int act = 0; act < 20; act++) {
                most[2 * act] = 99;
                most[2 * act + 1] = 9;
            }
            b.is("the most", day(TEXT, 2, most), 1980);
        });
        b.says("behind how many of its acts all is OUT (3)", () -> {
            b.is("no acts, all is out", day("r2;p0;p0", 3), 0);
            b.is("no steps, all is out", day("r2;p0;p0", 3, 0, 9), 1);
            b.is("one number is left", day("r2;p1;p1", 3, 0, 0), 0);
            b.is("the last number", day("r2;p1;p1", 3, 0, 0, 0, 1), 1);
            b.is("in again, out again", day("r2;p0;p0", 3, 1, 0, 0, 0, 1, 1, 0, 1), 2);
            b.is("one act of many steps", day("r2;p0;p1", 3, 99, 9), 1);
            b.is("never", day(TEXT, 3, 99, 9, 99, 9), 0);
            b.is("by all 20", day("r2;p0;p0", 3, new int[40]), 20);
        });
        b.says("TAIL then (4)", () -> {
            for (int n = 0; n <= 6; n++) {
                b.is("behind " + n, day(TEXT, 4, n, 9), Math.max(4 - n, 0));
            }
            b.is("all is out", day(TEXT, 4, 0, 0, 0, 1, 0, 2, 0, 3), 0);
            b.is("all alike", day(TEXT, 4, 4, 0, 4, 1, 4, 2, 4, 3), 1);
            DifferRings x = withActs(TEXT, 2, 9);
            b.is("as what is asked first", x.day(1, 1, 0, 1, 4), 2);
            b.is("now is kept", x.now(0), 4);
        });
        b.says("NUMBER of PLACE p then (10 and p; NONE: there is no such PLACE)", () -> {
            for (int places = 2; places <= 5; places++) {
                String text = "r6" + ";p5".repeat(places);
                for (int p = 0; p < 5; p++) {
                    b.is("place " + p + " of " + places, day(text, 10 + p, 3, 0), p == 0 ? 3 : p < places ? 5 : -9);
                }
            }
        });
        b.says("of one with a FIRST WRONG: -100 less that (but what 1)", () -> {
            int[] last = new int[40];
            last[38] = 5;
            for (int what : WHATS) {
                b.is("the first, what " + what, day("r2;p0;p1", what, 0, 2), what == 1 ? 0 : -100);
                b.is("the second, what " + what, day("r2;p0;p1", what, 0, 9, 2, 0), what == 1 ? 1 : -101);
                b.is("the last, what " + what, day(TEXT, what, last), what == 1 ? 19 : -119);
                b.refusedFaultless(() -> withActs(TEXT, 1, 9, 1, 4), "what " + what, what == 1 ? 1 : -101,
                    x -> x.day(1, 1, 0, 2, what));
            }
        });
    }

    private static DifferRings onSheet(int k, int lane, int... cells) {
        DifferRings x = Due.ringOf(TEXT);
        Due.fill(x, k, lane, cells);
        return x;
    }

    private void dayRefused() {
        b.says("UNKNOWN: SHEET", () -> {
            for (int k : Bounds.beyond(0, 3)) {
                b.refusedFaultless(Bounds::full, "sheet " + k, -1, x -> x.day(k, 0, 0, 0, 0));
                b.refusedFaultless(Bounds::full, "ahead of outside, sheet " + k, -1, x -> x.day(k, 3, -1, 21, 5));
                b.refusedFaultless(Bounds::withoutRing, "ahead of no ring, sheet " + k, -1, x -> x.day(k, 0, 0, 0, 0));
            }
        });
        b.says("OUTSIDE: lane, n (0 .. 20), what (0 .. 4, 10 .. 14)", () -> {
            for (int lane : Bounds.beyond(0, 2)) {
                outside("lane " + lane, x -> x.day(1, lane, 0, 1, 0));
                outside("ahead of faults, lane " + lane, x -> x.day(2, lane, -1, 1, 0));
            }
            for (int n : Bounds.beyond(0, 20)) {
                outside("n " + n, x -> x.day(1, 1, 0, n, 0));
                outside("ahead of cast, n " + n, x -> x.day(1, 0, -1, n, 0));
                outside("ahead of nothing, n " + n, x -> x.day(2, 0, -1, n, 0));
            }
            // 2 n wraps to 0, to 2 and to 40.
            for (int n : new int[] {1 << 31, 1 << 30, (1 << 31) + 1, (1 << 30) + 1, (1 << 31) + 20}) {
                outside("twice it wraps, n " + n, x -> x.day(1, 1, 0, n, 0));
            }
            for (int what : new int[] {-1, 5, 6, 7, 8, 9, 15, Bounds.LEAST, Bounds.MOST}) {
                outside("what " + what, x -> x.day(1, 1, 0, 1, what));
                outside("ahead of faults, what " + what, x -> x.day(2, 1, -1, 1, what));
                outside("ahead of a pair, what " + what, x -> x.day(1, 1, 4, 1, what));
            }
            for (int what : WHATS) {
                b.holds("allowed, what " + what, Bounds.full().day(1, 1, 0, 1, what) != -2);
            }
        });
        b.says("STATE: there is no RING", () -> {
            for (int what : WHATS) {
                b.refusedFaultless(Bounds::withoutRing, "what " + what, -3, x -> x.day(0, 0, 0, 1, what));
            }
            b.refusedFaultless(Bounds::withoutRing, "ahead of cast", -3, x -> x.day(0, 1, 0, 1, 0));
            b.refusedFaultless(Bounds::withoutRing, "ahead of nothing", -3, x -> x.day(2, 1, 0, 1, 0));
            b.refusedFaultless(Bounds::withoutRing, "ahead of index", -3, x -> x.day(0, 0, -1, 20, 0));
            b.refusedFaultless(Bounds::withoutRing, "ahead of a pair", -3, x -> x.day(0, 0, 3, 1, 0));
        });
        b.says("CAST", () -> {
            b.faulted(Bounds::full, "bytes as shorts", Bounds.CAST, x -> x.day(0, 1, 0, 0, 0));
            b.faulted(Bounds::full, "bytes as ints", Bounds.CAST, x -> x.day(0, 2, 0, 0, 0));
            b.faulted(Bounds::full, "shorts as bytes", Bounds.CAST, x -> x.day(1, 0, 0, 1, 0));
            b.faulted(Bounds::full, "shorts as ints", Bounds.CAST, x -> x.day(1, 2, 0, 1, 0));
            b.faulted(() -> onSheet(0, 2, 1, 9), "ints as bytes", Bounds.CAST, x -> x.day(0, 0, 0, 1, 0));
            b.faulted(() -> onSheet(0, 2, 1, 9), "ints as shorts", Bounds.CAST, x -> x.day(0, 1, 0, 1, 0));
            b.faulted(Bounds::full, "ahead of index", Bounds.CAST, x -> x.day(1, 0, -1, 20, 0));
            b.faulted(Bounds::full, "ahead of a pair", Bounds.CAST, x -> x.day(1, 0, 4, 1, 0));
        });
        b.says("NULL", () -> {
            for (int lane = 0; lane < 3; lane++) {
                int as = lane;
                b.faulted(Bounds::full, "no cast, lane " + lane, Bounds.NULL, x -> x.day(2, as, 0, 0, 0));
                b.faulted(Bounds::full, "ahead of index, lane " + lane, Bounds.NULL, x -> x.day(2, as, -1, 20, 0));
            }
        });
        b.says("INDEX", () -> {
            for (int i : Bounds.beyond(0, 6)) {
                b.faulted(Bounds::full, "none from " + i, Bounds.INDEX, x -> x.day(1, 1, i, 0, 0));
                b.faulted(Bounds::full, "one from " + i, Bounds.INDEX, x -> x.day(1, 1, i, 1, 0));
                b.faulted(Bounds::full, "20 from " + i, Bounds.INDEX, x -> x.day(1, 1, i, 20, 0));
            }
            b.faulted(Bounds::full, "half a pair", Bounds.INDEX, x -> x.day(1, 1, 5, 1, 0));
            b.faulted(Bounds::full, "a pair behind the last cell", Bounds.INDEX, x -> x.day(1, 1, 6, 1, 0));
            b.faulted(Bounds::full, "one pair more", Bounds.INDEX, x -> x.day(1, 1, 0, 4, 0));
            b.faulted(Bounds::full, "ahead of a pair outside", Bounds.INDEX, x -> x.day(1, 1, 4, 2, 0));
            b.faulted(() -> onSheet(0, 0), "a pair of a row of none", Bounds.INDEX, x -> x.day(0, 0, 0, 1, 0));
            b.faulted(() -> onSheet(0, 2, new int[39]), "20 pairs but one cell", Bounds.INDEX, x -> x.day(0, 2, 0, 20, 0));
            b.taken(Bounds::full, "none behind the last", 8, x -> x.day(1, 1, 6, 0, 0));
            b.taken(() -> onSheet(0, 0), "none of a row of none", 8, x -> x.day(0, 0, 0, 0, 0));
        });
    }

    private void outside(String call, Bounds.Ask ask) {
        b.refusedFaultless(Bounds::full, call, -2, ask);
        b.refusedFaultless(Bounds::withoutRing, call + ", ahead of no ring", -2, ask);
    }

    /** A pair alone, behind one that can be, ahead of one, and behind one that can't be. */
    private void pairOutside(int first, int second) {
        String pair = "pair " + first + " " + second;
        int[][] days = {{first, second}, {0, 9, first, second}, {first, second, 0, 9}, {0, 4, first, second},
            {first, second, 0, 4}};
        for (int[] cells : days) {
            for (int what : new int[] {0, 1, 4, 14}) {
                b.refusedFaultless(() -> onSheet(1, 2, cells), pair + " of " + cells.length + ", what " + what, -2,
                    x -> x.day(1, 2, 0, cells.length / 2, what));
            }
        }
    }

    private void dayPairs() {
        b.says("pair by pair OUTSIDE: the second is none of 0 .. 4, 9", () -> {
            for (int second : new int[] {-1, 5, 6, 7, 8, 10, 265, -9, Bounds.LEAST, Bounds.MOST}) {
                for (int first : new int[] {-1, 0, 5, 99, 100}) {
                    pairOutside(first, second);
                }
            }
            for (int second : new int[] {0, 1, 2, 3, 9}) {
                b.is("allowed, " + second, day(TEXT, 1, 4, second), -9);
            }
            b.is("allowed though there is no such place", day(TEXT, 1, 4, 4), 0);
            DifferRings beyond = onSheet(1, 2, 0, 9, 0, 5);
            b.is("a pair that is not taken", beyond.day(1, 2, 0, 1, 1), -9);
        });
        b.says("it is 0 .. 4 and the first is not 0 .. 5", () -> {
            for (int second = 0; second <= 4; second++) {
                for (int first : Bounds.beyond(0, 5)) {
                    pairOutside(first, second);
                }
                pairOutside(99, second);
                b.is("0 is allowed at " + second, day("r6;p1;p1;p1;p1;p1", 1, 0, second), -9);
                b.is("5 is allowed at " + second, day("r6;p1;p1;p1;p1;p1", 1, 5, second), -9);
                b.is("5 is wrong, not outside, at " + second, day("r5;p1;p1;p1;p1;p1", 1, 5, second), 0);
            }
        });
        b.says("it is 9 and the first is not 0 .. 99", () -> {
            for (int first : Bounds.beyond(0, 99)) {
                pairOutside(first, 9);
            }
            b.is("0 is allowed", day(TEXT, 2, 0, 9), 0);
            b.is("99 is allowed", day(TEXT, 2, 99, 9), 99);
        });
    }
}
