import java.util.ArrayList;
import java.util.List;

/** The document's part 3, and promises 8 to 13: now, from, rows, longest, meet, few. */
final class RowsBounds {
    /** a b becomes 0 and how far b is from a, and stays so: what a RING of a FAR and a PLAIN one does. */
    private static final String FAR_PLAIN = "r6;f0;p0";
    /** Five PLAIN ones: only those that are all alike go out. */
    private static final String FIVE_PLAIN = "r6;p0;p1;p2;p3;p4";

    private final Bounds b;

    RowsBounds(Bounds b) {
        this.b = b;
    }

    void run() {
        rowsOfPart();
        waysOfPart();
        sumsOfPart();
        meetAndFewOfPart();
        now();
        from();
        rows();
        longest();
        meet();
        meetFaults();
        few();
    }

    private static DifferRings written(String text, int... numbers) {
        DifferRings x = Due.ringOf(text);
        for (int p = 0; p < numbers.length; p++) {
            x.write(p, numbers[p]);
        }
        return x;
    }

    private void froms(String text, int[] numbers, long... want) {
        DifferRings x = written(text, numbers);
        b.row(text + " from", -1, want, k -> x.from((int) k));
    }

    private void sums(String text, long... want) {
        DifferRings x = Due.ringOf(text);
        b.row(text + " rows", 0, want, k -> x.rows((int) k));
    }

    private void longests(String text, long... want) {
        DifferRings x = Due.ringOf(text);
        b.row(text + " longest", -1, want, k -> x.longest((int) k));
    }

    private void fews(String text, int[] numbers, int many, int set) {
        DifferRings x = written(text, numbers);
        b.is(text + " few", x.few(0), many);
        b.is(text + " the least set", x.few(1), set);
    }

    private static List<Integer> numbersOf(DifferRings x) {
        List<Integer> row = new ArrayList<>();
        for (int p = 0; p < x.many(0); p++) {
            row.add(x.ofPlace(p, 1));
        }
        return row;
    }

    /** TAIL and ROUND by going STEP by STEP until a ROW comes again. */
    private void walked(String text, int... numbers) {
        DifferRings x = written(text, numbers);
        int tail = x.now(0);
        int round = x.now(1);
        DifferRings walker = written(text, numbers);
        List<List<Integer>> way = new ArrayList<>();
        while (!way.contains(numbersOf(walker))) {
            way.add(numbersOf(walker));
            walker.steps(1);
        }
        int first = way.indexOf(numbersOf(walker));
        b.is(text + " tail", tail, first);
        b.is(text + " round", round, way.size() - first);
    }

    private void rowsOfPart() {
        b.section("Part 3");
        b.says("A ROW of NUMBERS, one for each PLACE, lesser ones first (by the first NUMBERS that differ)", () -> {
            // 0 3, 1 4, 2 5, 3 0, 4 1 and 5 2 become 0 3.
            froms(FAR_PLAIN, new int[] {0, 3}, 6, 0, 3, -9, -9, -9);
            // 1 0 2 and 1 2 0 become 1 2 1.
            froms("r3;p1;p2;p1", new int[] {1, 2, 1}, 2, 1, 0, 2, -9, -9);
            // All alike ones become OUT, of which 0 0 0 0 0 is the least.
            froms(FIVE_PLAIN, new int[5], 6, 0, 0, 0, 0, 0);
            longests(FAR_PLAIN, 1, 1, 0, -9, -9, -9);
        });
        b.says("ALL ROWS: each NUMBER 0 .. BASE less 1 (kinds as they are)", () -> {
            for (int base = 2; base <= 6; base++) {
                long count = base;
                for (int places = 2; places <= 5; places++) {
                    count *= base;
                    b.is(base + " " + places, Due.ringOf("r" + base + ";m1".repeat(places)).rows(0), count);
                }
            }
            sums("r2;p0;p0", 4, 1, 2, 4, 1);
            sums("r2;f0;p0", 4, 2, 2, 2, 2);
            sums("r2;f0;f0", 4, 1, 3, 4, 1);
        });
        b.says("A ROW that is OUT has 0 in all PLACES.", () -> {
            for (int places = 2; places <= 5; places++) {
                String text = "r6" + ";p0".repeat(places);
                for (int p = -1; p < places; p++) {
                    DifferRings x = Due.ringOf(text);
                    x.write(p, 1);
                    Due.fill(x, 0, 0, 0, 9);
                    b.is("1 at " + p + " of " + places, x.day(0, 0, 0, 1, 3), p < 0 ? 1 : 0);
                }
            }
        });
    }

    private void waysOfPart() {
        b.says("TAIL of a ROW: behind how many STEPS it is first such as comes back by more STEPS", () -> {
            b.is("out", written(FIVE_PLAIN, 0, 0, 0, 0, 0).now(0), 0);
            b.is("all alike", written(FIVE_PLAIN, 5, 5, 5, 5, 5).now(0), 1);
            b.is("one that stays", written(FAR_PLAIN, 0, 5).now(0), 0);
            b.is("one that comes to it", written(FAR_PLAIN, 5, 0).now(0), 1);
            b.is("one that goes round", written("r2;p0;p1;p1").now(0), 0);
            b.is("one that comes to a round", written("r2;p0;p0;p1").now(0), 1);
            walked("r5;m0;m0;f0;f0;f0", firstOfLongest("r5;m0;m0;f0;f0;f0"));
            b.is("of long ones", written("r5;m0;m0;f0;f0;f0", firstOfLongest("r5;m0;m0;f0;f0;f0")).now(0), 53);
        });
        b.says("ROUND: by how many.", () -> {
            b.is("out", written(FIVE_PLAIN, 0, 0, 0, 0, 0).now(1), 1);
            b.is("one that stays", written(FAR_PLAIN, 0, 5).now(1), 1);
            b.is("round by 3", written("r2;p0;p1;p1").now(1), 3);
            b.is("round by 3 behind a step", written("r2;p0;p0;p1").now(1), 3);
            b.is("a long one", written("r4;m0;m0;m0;m0;m1").now(1), 45);
            walked("r4;m0;m0;m0;m0;m1");
            walked("r2;p0;p0;p0;p0;p1");
            walked("r6;m0;m0;f0;f1");
        });
        b.says("FROM: ROWS that become NUMBERS as they are now by one STEP: how many", () -> {
            long[] pairs = {6, 10, 8, 6, 4, 2};
            for (int v = 0; v < 6; v++) {
                b.is("0 " + v, written(FAR_PLAIN, 0, v).from(-1), pairs[v]);
                b.is("1 " + v, written(FAR_PLAIN, 1, v).from(-1), 0);
            }
            b.is("all ROWS but OUT come of none", written("r2;f0;f0").from(-1), 4);
            b.is("one of these", written("r2;f0;f1").from(-1), 0);
        });
        b.says("the first such.", () -> {
            froms(FAR_PLAIN, new int[] {0, 5}, 2, 0, 5, -9, -9, -9);
            froms("r2;p1;p1", new int[] {1, 1}, 2, 0, 1, -9, -9, -9);
            froms("r2;p0;p1", new int[] {0, 1}, 0, -9, -9, -9, -9, -9);
            // 0 0 5 5 5 and 5 5 0 0 0 become it.
            froms(FIVE_PLAIN, new int[] {0, 5, 0, 0, 5}, 2, 0, 0, 5, 5, 5);
        });
    }

    private static int[] firstOfLongest(String text) {
        DifferRings x = Due.ringOf(text);
        int[] row = new int[x.many(0)];
        for (int p = 0; p < row.length; p++) {
            row[p] = x.longest(p);
        }
        return row;
    }

    private void sumsOfPart() {
        b.says("Of ALL ROWS: how many STAY (a STEP changes nothing)", () -> {
            b.is("out alone", Due.ringOf(FIVE_PLAIN).rows(1), 1);
            b.is("0 and any", Due.ringOf(FAR_PLAIN).rows(1), 6);
            b.is("0 and any, twice", Due.ringOf("r6;f0;p0;f0;p0").rows(1), 36);
        });
        b.says("BARREN: how many come of none by a STEP", () -> {
            b.is("all but two alike", Due.ringOf("r6;p0;p0").rows(2), 30);
            b.is("all but out", Due.ringOf("r6;f0;f0").rows(2), 35);
            b.is("the least", Due.ringOf("r2;p0;p0").rows(2), 2);
        });
        b.says("GO OUT: how many are OUT behind some STEPS (0, too)", () -> {
            b.is("all", Due.ringOf("r6;p0;p0").rows(3), 36);
            b.is("those alike, out itself, too", Due.ringOf(FIVE_PLAIN).rows(3), 6);
            b.is("the fewest", Due.ringOf("r2;p0;p0;p0").rows(3), 2);
            b.is("out goes out by 0", written(FIVE_PLAIN, 0, 0, 0, 0, 0).now(2), 1);
        });
        b.says("LONGEST: the greatest TAIL", () -> {
            longests("r2;f0;f0", 1, 0, 1, -9, -9, -9);
            b.is("a long one", Due.ringOf("r5;m0;m0;f0;f0;f0").longest(-1), 53);
            b.is("another one", Due.ringOf("r6;m0;m0;f0;m0;f0").longest(-1), 50);
            for (String text : new String[] {"r5;m0;m0;f0;f0;f0", "r6;m0;m0;f0;m0;f0", FAR_PLAIN, "r2;p0;p0"}) {
                DifferRings x = written(text, firstOfLongest(text));
                b.is(text + " has that tail", x.now(0), x.longest(-1));
            }
        });
        b.says("the first ROW of that TAIL", () -> {
            longests("r2;p0;p0", 2, 0, 1, -9, -9, -9);
            longests("r6;p0;p0", 2, 0, 1, -9, -9, -9);
            longests(FAR_PLAIN, 1, 1, 0, -9, -9, -9);
            longests("r3;p1;p2;p0", 2, 0, 1, 2, -9, -9);
        });
        b.says("ROUNDS: how many unlike sets of ROWS there are that come back to one another.", () -> {
            b.is("one", Due.ringOf("r6;p0;p0").rows(4), 1);
            b.is("each by itself", Due.ringOf(FAR_PLAIN).rows(4), 6);
            b.is("one of 3, and out", Due.ringOf("r2;p0;p0;p0").rows(4), 2);
            b.is("one of 15, and out", Due.ringOf("r2;p0;p0;p0;p0;p0").rows(4), 2);
            b.is("many", Due.ringOf("r6;f0;p0;f0;p0;p0").rows(4), 126);
        });
    }

    private static long meets(String text, int[] numbers, int... other) {
        DifferRings x = written(text, numbers);
        Due.fill(x, 0, 2, other);
        return x.meet(0, 2, 0);
    }

    /** A ROW of the round to which the longest comes: behind as many STEPS both are at its first such ROW. */
    private void meetsLast(String text) {
        int[] first = firstOfLongest(text);
        DifferRings x = written(text, first);
        int tail = x.longest(-1);
        int round = x.now(1);
        long more = tail + Math.floorMod(-tail, round);
        int[] other = new int[first.length];
        for (int p = 0; p < other.length; p++) {
            other[p] = x.after(p, more);
        }
        b.is(text + " at last", meets(text, first, other), tail);
        b.is(text + " the other way about", meets(text, other, first), tail);
        if (round > 1) {
            for (int p = 0; p < other.length; p++) {
                other[p] = x.after(p, more + 1);
            }
            b.is(text + " one further round", meets(text, first, other), -9);
        }
    }

    private void meetAndFewOfPart() {
        b.says("MEET with a ROW told: the fewest STEPS behind each of which, of both as many, both are the same", () -> {
            b.is("itself", meets("r6;p5;p0", new int[0], 5, 0), 0);
            b.is("by the next step", meets("r6;p5;p0", new int[0], 0, 5), 1);
            b.is("out", meets("r6;p5;p0", new int[0], 0, 0), 2);
            b.is("one that it becomes, as many steps on", meets("r6;p5;p0", new int[0], 5, 5), 2);
            b.is("at once where both stay", meets(FAR_PLAIN, new int[] {0, 3}, 0, 3), 0);
            b.is("by one step", meets(FAR_PLAIN, new int[] {0, 3}, 3, 0), 1);
            meetsLast("r5;m0;m0;f0;f0;f0");
            meetsLast("r6;m0;m0;f0;m0;f0");
            meetsLast("r4;m0;m0;m0;m0;m0");
            meetsLast("r2;p0;p0;p0");
        });
        b.says("NONE", () -> {
            b.is("both stay", meets(FAR_PLAIN, new int[] {0, 3}, 0, 2), -9);
            b.is("the same round, a step behind", meets("r2;p0;p1;p1", new int[0], 1, 0, 1), -9);
            b.is("out and round", meets("r2;p0;p1;p1", new int[0], 0, 0, 0), -9);
        });
        b.says("FEW: the fewest PLACES whose NUMBERS must be written anew so that all GOES OUT", () -> {
            fews(FIVE_PLAIN, new int[] {0, 0, 0, 0, 0}, 0, 0);
            fews(FIVE_PLAIN, new int[] {5, 5, 5, 5, 5}, 0, 0);
            fews(FIVE_PLAIN, new int[] {5, 5, 5, 5, 0}, 1, 16);
            fews(FIVE_PLAIN, new int[] {0, 1, 1, 2, 2}, 3, 7);
            fews(FIVE_PLAIN, new int[] {0, 1, 2, 3, 4}, 4, 15);
        });
        b.says("of such sets of PLACES the least (as bits)", () -> {
            // Either is enough: PLACE 0 by itself is bit 0.
            fews(FAR_PLAIN, new int[] {0, 1}, 1, 1);
            // PLACE 2 alone is bit 2, more than bits 0 and 1, but fewer.
            fews("r2;p0;p0;p1", new int[0], 1, 4);
            fews("r2;p0;p0;p0;p1;p1", new int[0], 2, 24);
            // All must be alike, so any two are enough: PLACES 0 and 1 are the least.
            fews("r3;p1;p2;p0", new int[0], 2, 3);
        });
    }

    private static final String TEXT = "r5;p4;f1;m3;p0";

    private void withoutRing(int least, int most, java.util.function.BiFunction<DifferRings, Integer, Integer> call) {
        for (int k = least; k <= most; k++) {
            int of = k;
            b.refused(Bounds::withoutRing, "no ring, " + k, -3, x -> call.apply(x, of));
            b.refused(DifferRings::new, "a new object, " + k, -3, x -> call.apply(x, of));
        }
    }

    private void outside(int least, int most, java.util.function.BiFunction<DifferRings, Integer, Integer> call) {
        for (int k : Bounds.beyond(least, most)) {
            b.refused(Bounds::full, "outside, " + k, -2, x -> call.apply(x, k));
            b.refused(Bounds::withoutRing, "outside ahead of no ring, " + k, -2, x -> call.apply(x, k));
        }
        for (int k = least; k <= most; k++) {
            b.holds("not outside, " + k, call.apply(Bounds.full(), k) != -2);
        }
    }

    private void now() {
        b.section("Promise 8");
        b.says("TAIL of NUMBERS now (what 0)", () -> {
            DifferRings x = Due.ringOf(TEXT);
            for (int s = 0; s < 7; s++) {
                b.is("behind " + s, x.now(0), Math.max(4 - s, 0));
                x.steps(1);
            }
            x.write(0, 4);
            b.is("of what is written", x.now(0), written(TEXT, 4, 1, 0, 0).now(0));
        });
        b.says("ROUND (1)", () -> {
            DifferRings x = Due.ringOf(TEXT);
            for (int s = 0; s < 7; s++) {
                b.is("behind " + s, x.now(1), 3);
                x.steps(1);
            }
            for (int p = 0; p < 4; p++) {
                x.write(p, 4);
            }
            b.is("all alike", x.now(1), 1);
        });
        b.says("whether all GOES OUT (2; 1, 0)", () -> {
            b.is("no", Due.ringOf(TEXT).now(2), 0);
            b.is("one that stays", written(FAR_PLAIN, 0, 1).now(2), 0);
            b.is("yes", Due.ringOf("r6;p5;p0").now(2), 1);
            b.is("behind a long tail", written("r6;p5;m4;m3;f2;m1").now(2), 1);
            b.is("is out", written(TEXT, 0, 0, 0, 0).now(2), 1);
        });
        b.says("OUTSIDE", () -> outside(0, 2, DifferRings::now));
        b.says("STATE: there is no RING", () -> withoutRing(0, 2, DifferRings::now));
    }

    private void from() {
        b.section("Promise 9");
        b.says("FROM: how many (k -1)", () -> {
            b.is("none", Due.ringOf(TEXT).from(-1), 0);
            b.is("two", Due.ringOf("r2;p1;p1").from(-1), 2);
            DifferRings x = written(FAR_PLAIN, 1, 5);
            b.is("of what is now", x.from(-1), 0);
            x.write(0, 0);
            b.is("of what is written", x.from(-1), 2);
            x.write(1, 3);
            x.write(0, 1);
            x.steps(1);
            b.is("of what is behind a step", x.from(-1), 8);
        });
        b.says("NUMBER of PLACE k (0 .. 4) of the first", () -> {
            b.is("the first of two", written(FAR_PLAIN, 0, 4).from(0), 0);
            b.is("the last of two", written(FAR_PLAIN, 0, 4).from(1), 4);
            froms(FIVE_PLAIN, new int[] {0, 5, 0, 0, 5}, 2, 0, 0, 5, 5, 5);
        });
        b.says("NONE: there is none, no such PLACE", () -> {
            froms(FAR_PLAIN, new int[] {1, 1}, 0, -9, -9, -9, -9, -9);
            froms(FIVE_PLAIN, new int[] {0, 0, 0, 0, 1}, 0, -9, -9, -9, -9, -9);
            froms("r6;p0;p0", new int[0], 6, 0, 0, -9, -9, -9);
            froms("r6;p0;p0;p0", new int[0], 6, 0, 0, 0, -9, -9);
            froms("r6;p0;p0;p0;p0", new int[0], 6, 0, 0, 0, 0, -9);
        });
        b.says("OUTSIDE", () -> outside(-1, 4, DifferRings::from));
        b.says("STATE: there is no RING", () -> withoutRing(-1, 4, DifferRings::from));
    }

    private void rows() {
        b.section("Promise 10");
        b.says("Of ALL ROWS: how many there are (what 0)", () -> {
            b.is("the fewest", Due.ringOf("r2;p0;p0").rows(0), 4);
            b.is("the most", Due.ringOf(FIVE_PLAIN).rows(0), 7776);
        });
        b.says("STAY (1)", () -> b.is("six", Due.ringOf(FAR_PLAIN).rows(1), 6));
        b.says("are BARREN (2)", () -> b.is("30", Due.ringOf(FAR_PLAIN).rows(2), 30));
        b.says("GO OUT (3)", () -> b.is("six alike", Due.ringOf(FIVE_PLAIN).rows(3), 6));
        b.says("ROUNDS (4)", () -> {
            sums(FAR_PLAIN, 36, 6, 30, 6, 6);
            DifferRings x = Due.ringOf(TEXT);
            b.row("ahead", 0, new long[] {625, 1, 530, 5, 8}, k -> x.rows((int) k));
            x.steps(1);
            x.write(0, 0);
            b.row("whatever is now", 0, new long[] {625, 1, 530, 5, 8}, k -> x.rows((int) k));
        });
        b.says("OUTSIDE", () -> outside(0, 4, DifferRings::rows));
        b.says("STATE: there is no RING", () -> withoutRing(0, 4, DifferRings::rows));
    }

    private void longest() {
        b.section("Promise 11");
        b.says("LONGEST (k -1)", () -> {
            b.is("the least", Due.ringOf(FAR_PLAIN).longest(-1), 1);
            b.is("a long one", Due.ringOf("r5;m0;m0;f0;f0;f0").longest(-1), 53);
        });
        b.says("NUMBER of PLACE k (0 .. 4) of the first ROW of that TAIL", () -> {
            longests(TEXT, 5, 0, 2, 4, 0, -9);
            longests("r6;p5;m4;m3;f2;m1", 14, 2, 3, 0, 2, 5);
            DifferRings x = Due.ringOf(TEXT);
            x.steps(3);
            b.row("whatever is now", -1, new long[] {5, 0, 2, 4, 0, -9}, k -> x.longest((int) k));
        });
        b.says("NONE: there is no such PLACE", () -> {
            for (int places = 2; places <= 5; places++) {
                DifferRings x = Due.ringOf("r2" + ";p0".repeat(places));
                for (int k = 0; k < 5; k++) {
                    b.is(k + " of " + places, Math.min(x.longest(k), 0), k < places ? 0 : -9);
                }
            }
        });
        b.says("OUTSIDE", () -> outside(-1, 4, DifferRings::longest));
        b.says("STATE: there is no RING", () -> withoutRing(-1, 4, DifferRings::longest));
    }

    private static DifferRings withRows(int k, int lane, int... cells) {
        DifferRings x = Bounds.full();
        Due.fill(x, k, lane, cells);
        return x;
    }

    private void meet() {
        b.section("Promise 12");
        b.says("MEET with a ROW told by as many cells of a SHEET from i on as there are PLACES", () -> {
            for (int k = 0; k < 4; k++) {
                for (int lane = 0; lane < 3; lane++) {
                    int sheet = k;
                    int as = lane;
                    b.taken(() -> withRows(sheet, as, 2, 4, 1, 1), "all cells", 0, x -> x.meet(sheet, as, 0));
                    b.taken(() -> withRows(sheet, as, 9, 2, 4, 1, 1), "the last ones", 0, x -> x.meet(sheet, as, 1));
                    b.taken(() -> withRows(sheet, as, 2, 4, 1, 1, 9), "the first ones", 0, x -> x.meet(sheet, as, 0));
                }
            }
            b.is("two cells", meets("r6;p5;p0", new int[0], 5, 0), 0);
            b.is("five cells", meets(FIVE_PLAIN, new int[0], 0, 1, 2, 3, 4), 0);
            b.is("the last is another", meets(FIVE_PLAIN, new int[0], 0, 1, 2, 3, 5), -9);
            int[] sixty = new int[60];
            sixty[56] = 2;
            sixty[57] = 4;
            sixty[58] = 1;
            sixty[59] = 1;
            b.taken(() -> withRows(2, 0, sixty), "the last of 60", 0, x -> x.meet(2, 0, 56));
            b.refusedFaultless(() -> withRows(2, 0, sixty), "changes nothing", 0, x -> x.meet(2, 0, 56));
        });
        b.says("NONE", () -> b.taken(() -> withRows(2, 1, 0, 0, 0, 0), "out and round", -9, x -> x.meet(2, 1, 0)));
        b.says("STATE: there is no RING", () -> {
            b.refusedFaultless(Bounds::withoutRing, "no ring", -3, x -> x.meet(0, 0, 0));
            for (int k : Bounds.beyond(0, 3)) {
                b.refusedFaultless(Bounds::withoutRing, "ahead of sheet " + k, -3, x -> x.meet(k, 3, -1));
            }
            b.refusedFaultless(Bounds::withoutRing, "ahead of lane", -3, x -> x.meet(0, 3, 0));
            b.refusedFaultless(Bounds::withoutRing, "ahead of cast", -3, x -> x.meet(0, 1, 0));
            b.refusedFaultless(Bounds::withoutRing, "ahead of nothing", -3, x -> x.meet(2, 0, 0));
            b.refusedFaultless(Bounds::withoutRing, "ahead of index", -3, x -> x.meet(0, 0, -1));
        });
        b.says("UNKNOWN: SHEET", () -> {
            for (int k : Bounds.beyond(0, 3)) {
                b.refusedFaultless(Bounds::full, "sheet " + k, -1, x -> x.meet(k, 0, 0));
                b.refusedFaultless(Bounds::full, "ahead of lane, sheet " + k, -1, x -> x.meet(k, 3, -1));
            }
        });
        b.says("OUTSIDE: lane", () -> {
            for (int lane : Bounds.beyond(0, 2)) {
                b.refusedFaultless(Bounds::full, "lane " + lane, -2, x -> x.meet(0, lane, 0));
                b.refusedFaultless(Bounds::full, "ahead of faults, lane " + lane, -2, x -> x.meet(2, lane, -1));
            }
        });
    }

    private void meetFaults() {
        b.says("CAST", () -> {
            b.faulted(Bounds::full, "bytes as shorts", Bounds.CAST, x -> x.meet(0, 1, 0));
            b.faulted(Bounds::full, "bytes as ints", Bounds.CAST, x -> x.meet(0, 2, 0));
            b.faulted(Bounds::full, "shorts as bytes", Bounds.CAST, x -> x.meet(1, 0, 0));
            b.faulted(Bounds::full, "shorts as ints", Bounds.CAST, x -> x.meet(1, 2, 0));
            b.faulted(() -> withRows(2, 2, 0, 0, 0, 0), "ints as bytes", Bounds.CAST, x -> x.meet(2, 0, 0));
            b.faulted(() -> withRows(2, 2, 0, 0, 0, 0), "ints as shorts", Bounds.CAST, x -> x.meet(2, 1, 0));
            b.faulted(Bounds::full, "ahead of index", Bounds.CAST, x -> x.meet(0, 1, -1));
            b.faulted(Bounds::full, "ahead of a cell", Bounds.CAST, x -> x.meet(0, 1, 1));
        });
        b.says("NULL", () -> {
            for (int lane = 0; lane < 3; lane++) {
                int as = lane;
                b.faulted(Bounds::full, "no cast, lane " + lane, Bounds.NULL, x -> x.meet(2, as, 0));
                b.faulted(Bounds::full, "ahead of index, lane " + lane, Bounds.NULL, x -> x.meet(2, as, -1));
            }
        });
        b.says("INDEX", () -> {
            // SHEET 0 has seven cells, the RING four PLACES.
            for (int i : new int[] {-1, 4, 5, 6, 7, 8, Bounds.LEAST, Bounds.MOST, Bounds.MOST - 3}) {
                b.faulted(Bounds::full, "from " + i, Bounds.INDEX, x -> x.meet(0, 0, i));
            }
            b.refusedFaultless(Bounds::full, "from 3 on there are as many", -2, x -> x.meet(0, 0, 3));
            b.faulted(() -> withRows(2, 0), "a row of none", Bounds.INDEX, x -> x.meet(2, 0, 0));
            b.faulted(() -> withRows(2, 0, 0, 0, 0), "one too few", Bounds.INDEX, x -> x.meet(2, 0, 0));
            b.faulted(() -> withRows(2, 0, 9, 9, 9), "ahead of a cell", Bounds.INDEX, x -> x.meet(2, 0, 0));
        });
        b.says("OUTSIDE: a cell is not 0 .. BASE less 1", () -> {
            for (int at = 0; at < 4; at++) {
                int place = at;
                for (int v : Bounds.beyond(0, 4)) {
                    int[] cells = {1, 1, 1, 1};
                    cells[place] = v;
                    b.refusedFaultless(() -> withRows(2, 2, cells), v + " at " + at, -2, x -> x.meet(2, 2, 0));
                }
                for (int v : new int[] {0, 4}) {
                    int[] cells = {1, 1, 1, 1};
                    cells[place] = v;
                    DifferRings x = withRows(2, 2, cells);
                    b.holds(v + " is allowed at " + at, x.meet(2, 2, 0) != -2);
                }
            }
            for (int base = 2; base <= 6; base++) {
                String text = "r" + base + ";p0;p1";
                b.is(base + " of base " + base, meets(text, new int[0], 0, base), -2);
                b.holds("one less of base " + base, meets(text, new int[0], 0, base - 1) >= 0);
            }
            b.taken(() -> withRows(2, 2, 2, 4, 1, 1, 9), "a cell that is not taken", 0, x -> x.meet(2, 2, 0));
        });
    }

    private void few() {
        b.section("Promise 13");
        b.says("FEW: how many (what 0)", () -> {
            b.is("none", written(FIVE_PLAIN, 0, 0, 0, 0, 0).few(0), 0);
            b.is("all but one", written(FIVE_PLAIN, 0, 1, 2, 3, 4).few(0), 4);
            DifferRings x = Due.ringOf(FAR_PLAIN);
            b.is("out", x.few(0), 0);
            x.write(1, 5);
            b.is("of what is written", x.few(0), 1);
        });
        b.says("the least set (1)", () -> {
            b.is("none", written(FIVE_PLAIN, 0, 0, 0, 0, 0).few(1), 0);
            b.is("all but the last", written(FIVE_PLAIN, 0, 1, 2, 3, 4).few(1), 15);
            b.is("the last alone", written(FIVE_PLAIN, 5, 5, 5, 5, 0).few(1), 16);
            b.is("all but two that are alike", written(FIVE_PLAIN, 0, 1, 0, 2, 3).few(1), 26);
        });
        b.says("OUTSIDE", () -> outside(0, 1, DifferRings::few));
        b.says("STATE: there is no RING", () -> withoutRing(0, 1, DifferRings::few));
    }
}
