import java.util.List;

/** The document's part 5, and promises 19 to 29: sheets, tell, call, as, trace, fault, many. */
final class SheetsBounds {
    private final Bounds b;

    SheetsBounds(Bounds b) {
        this.b = b;
    }

    void run() {
        sheetsOfPart();
        bodiesOfPart();
        sheet();
        lose();
        put();
        cell();
        copy();
        copyFaults();
        tellAndCall();
        as();
        traceAndFault();
        many();
    }

    private void cells(String what, DifferRings x, int k, int lane, long... want) {
        b.row(what + ", cell", 0, want, i -> x.cell(k, (int) i, lane));
        b.is(what + ", one below", x.cell(k, -1, lane), Bounds.LOST);
        b.is(what + ", one below: fault()", x.fault(), Bounds.INDEX);
        b.is(what + ", one more", x.cell(k, want.length, lane), Bounds.LOST);
        b.is(what + ", one more: fault()", x.fault(), Bounds.INDEX);
    }

    private static long[] zeros(int n) {
        return new long[n];
    }

    private void sheetsOfPart() {
        b.section("Part 5");
        b.says("SHEETS 0 .. 3 have nothing (at first)", () -> {
            DifferRings x = new DifferRings();
            for (int k = 0; k < 4; k++) {
                b.is("cell of " + k, x.cell(k, 0, 0), Bounds.LOST);
                b.is("fault() of " + k, x.fault(), Bounds.NULL);
                b.is("lose " + k, x.lose(k), 0);
            }
            b.is("lose -1", x.lose(-1), -1);
            b.is("lose 4", x.lose(4), -1);
        });
        b.says("or a row of 0 .. 60 numbers (0 at first) of a LANE: 0 bytes, 1 shorts, 2 ints", () -> {
            for (int k = 0; k < 4; k++) {
                for (int lane = 0; lane < 3; lane++) {
                    for (int n : new int[] {0, 1, 59, 60}) {
                        DifferRings x = new DifferRings();
                        b.is("sheet", x.sheet(k, lane, n), 1);
                        cells(n + " of lane " + lane + " on " + k, x, k, lane, zeros(n));
                    }
                }
            }
            DifferRings x = new DifferRings();
            b.is("61", x.sheet(0, 0, 61), -2);
            b.is("-1", x.sheet(0, 0, -1), -14);
            b.is("has nothing still", x.lose(0), 0);
        });
        b.says("what comes to a cell of it is cut to its LANE.", () -> {
            int[] v = {127, 128, 255, 256, -128, -129, 32767, 32768, 65535, 65536, -32768, -32769, Bounds.MOST,
                Bounds.LEAST, -1};
            for (int lane = 0; lane < 3; lane++) {
                DifferRings x = new DifferRings();
                Due.fill(x, lane, lane, v);
                for (int i = 0; i < v.length; i++) {
                    long want = lane == 0 ? (byte) v[i] : lane == 1 ? (short) v[i] : v[i];
                    b.is(v[i] + " of lane " + lane, x.cell(lane, i, lane), want);
                }
                x.sheet(3, lane, v.length);
                b.is("copied as they were", x.copy(lane, 0, 3, 0, v.length), v.length);
                for (int i = 0; i < v.length; i++) {
                    b.is(v[i] + " copied", x.cell(3, i, lane), x.cell(lane, i, lane));
                }
            }
            DifferRings x = new DifferRings();
            Due.fill(x, 0, 0, 128, -129, 256, 255);
            cells("bytes", x, 0, 0, -128, 127, 0, -1);
            Due.fill(x, 0, 1, 32768, -32769, 65536, 65535, 128);
            cells("shorts", x, 0, 1, -32768, 32767, 0, -1, 128);
        });
    }

    private static int traced(int trace, int... bodies) {
        for (int body : bodies) {
            trace = 31 * trace + body;
        }
        return trace;
    }

    /** A TELLING or a CALL of the PLACE of a RING of three kinds, and the bodies that it leaves in TRACE. */
    private void leaves(String call, Bounds.Ask ask, long want, int... bodies) {
        DifferRings x = Due.ringOf("r6;p5;f5;m5");
        b.is(call, ask.of(x), want);
        b.is(call + ", then trace()", x.trace(), traced(0, bodies));
        b.is(call + " once more", ask.of(x), want);
        b.is(call + " once more, then trace()", x.trace(), traced(traced(0, bodies), bodies));
    }

    private void bodiesOfPart() {
        b.says("TELLING of PLACES by bodies that leave their number in TRACE (an int that wraps, 0 at first, becomes 31 "
            + "times it and the number) as they begin", () -> {
                DifferRings x = Due.ringOf("r6;p5;f5;m5");
                b.is("at first", x.trace(), 0);
                x.tell(0);
                b.is("1", x.trace(), 1);
                x.call(0);
                b.is("31 and 4", x.trace(), 35);
                x.tell(1);
                // The outer body's number is left ahead of that of the one it calls.
                b.is("2, then 1", x.trace(), (35 * 31 + 2) * 31 + 1);
                x.call(2);
                b.is("then 5", x.trace(), 1044643);
                x.tell(2);
                b.is("wraps", x.trace(), traced(1044643, 3, 2, 1, 1));
                b.holds("it is more than an int tells", 1044643L * 31 * 31 * 31 * 31 > Bounds.MOST);
                for (int k = 0; k < 40; k++) {
                    int before = x.trace();
                    x.call(1);
                    b.is("on and on", x.trace(), before * 31 + 4);
                }
            });
        b.says("PLAIN (1): NUMBER.", () -> leaves("tell(0)", x -> x.tell(0), 5, 1));
        b.says("FAR (2): what PLAIN's gives, and 100.", () -> leaves("tell(1)", x -> x.tell(1), 105, 2, 1));
        b.says("MIXED (3): what FAR's gives, and what PLAIN's gives (FAR's left out).",
            () -> leaves("tell(2)", x -> x.tell(2), 110, 3, 2, 1, 1));
        b.says("CALLED by a lent body (4): its own number (0, 1, ..)", () -> {
            leaves("call(0)", x -> x.call(0), 0, 4);
            leaves("call(1)", x -> x.call(1), 1, 4);
            DifferRings five = Due.ringOf("r2;f0;p0;f0;p0;f0");
            b.row("call", 0, new long[] {0, 1, 2, 3, 4, -1}, p -> five.call((int) p));
        });
        b.says("MIXED ones have their own (5): 60.", () -> {
            leaves("call(2)", x -> x.call(2), 60, 5);
            DifferRings five = Due.ringOf("r2;m0;m0;m0;m0;m0");
            b.row("call", 0, new long[] {60, 60, 60, 60, 60, -1}, p -> five.call((int) p));
        });
    }

    private void sheet() {
        b.section("Promise 19");
        b.says("A SHEET gets a new row: 1", () -> {
            b.taken(Bounds::full, "in place of a row", 1, x -> x.sheet(0, 2, 3));
            b.taken(Bounds::full, "in place of nothing", 1, x -> x.sheet(2, 2, 60));
            b.taken(Bounds::full, "of none", 1, x -> x.sheet(3, 1, 0));
            DifferRings x = Bounds.full();
            x.sheet(0, 0, 7);
            cells("all 0 again", x, 0, 0, zeros(7));
            x.sheet(1, 2, 60);
            cells("a longer one of another lane", x, 1, 2, zeros(60));
            x.put(1, 59, 1);
            x.sheet(1, 2, 2);
            cells("a shorter one", x, 1, 2, zeros(2));
            x.sheet(1, 2, 60);
            cells("as long again", x, 1, 2, zeros(60));
            cells("another sheet is kept", x, 3, 0, 'r', '5', ';', 'p', '4', ';', 'f', '1', ';', 'm', '3', ';', 'p', '0');
        });
        b.says("UNKNOWN", () -> {
            for (int k : Bounds.beyond(0, 3)) {
                b.refusedFaultless(Bounds::full, "sheet " + k, -1, x -> x.sheet(k, 0, 1));
                b.refusedFaultless(Bounds::full, "ahead of outside, sheet " + k, -1, x -> x.sheet(k, 3, 61));
                b.refusedFaultless(Bounds::full, "ahead of size, sheet " + k, -1, x -> x.sheet(k, 0, -1));
            }
        });
        b.says("OUTSIDE: lane, n above 60", () -> {
            for (int lane : Bounds.beyond(0, 2)) {
                b.refusedFaultless(Bounds::full, "lane " + lane, -2, x -> x.sheet(0, lane, 1));
                b.refusedFaultless(Bounds::full, "ahead of size, lane " + lane, -2, x -> x.sheet(0, lane, -1));
                b.refusedFaultless(Bounds::full, "both, lane " + lane, -2, x -> x.sheet(0, lane, 61));
            }
            for (int n : new int[] {61, 62, 256, Bounds.MOST}) {
                b.refusedFaultless(Bounds::full, "n " + n, -2, x -> x.sheet(0, 0, n));
                b.refusedFaultless(Bounds::full, "of nothing, n " + n, -2, x -> x.sheet(2, 2, n));
            }
            b.taken(Bounds::full, "n 60", 1, x -> x.sheet(0, 0, 60));
        });
        b.says("SIZE", () -> {
            for (int n : new int[] {-1, -60, Bounds.LEAST}) {
                b.faulted(Bounds::full, "n " + n, Bounds.SIZE, x -> x.sheet(0, 0, n));
                b.faulted(Bounds::full, "of nothing, n " + n, Bounds.SIZE, x -> x.sheet(2, 2, n));
            }
            b.taken(Bounds::full, "n 0", 1, x -> x.sheet(0, 0, 0));
        });
    }

    private void lose() {
        b.section("Promise 20");
        b.says("A SHEET has nothing: 1", () -> {
            for (int k = 0; k < 4; k++) {
                for (int n : new int[] {0, 1, 60}) {
                    DifferRings x = new DifferRings();
                    x.sheet(k, k % 3, n);
                    b.is(k + " of " + n, x.lose(k), 1);
                    b.is("cell", x.cell(k, 0, k % 3), Bounds.LOST);
                    b.is("nothing", x.fault(), Bounds.NULL);
                }
            }
            DifferRings x = Bounds.full();
            x.lose(0);
            b.is("another sheet is kept", x.cell(1, 4, 1), 300);
            b.is("the ring is kept", x.many(0), 4);
        });
        b.says("0: it had nothing", () -> {
            b.refused(Bounds::full, "nothing", 0, x -> x.lose(2));
            DifferRings x = Bounds.full();
            b.is("a row", x.lose(0), 1);
            b.is("nothing then", x.lose(0), 0);
            b.is("nothing still", x.lose(0), 0);
        });
        b.says("UNKNOWN", () -> {
            for (int k : Bounds.beyond(0, 3)) {
                b.refused(Bounds::full, "sheet " + k, -1, x -> x.lose(k));
            }
        });
    }

    private void put() {
        b.section("Promise 21");
        b.says("Cell i of a SHEET becomes v: 1", () -> {
            b.taken(Bounds::full, "the first", 1, x -> x.put(1, 0, 7));
            b.taken(Bounds::full, "the last", 1, x -> x.put(1, 5, 7));
            DifferRings x = Bounds.full();
            x.put(1, 0, -5);
            x.put(1, 5, 70000);
            cells("both", x, 1, 1, -5, 9, 4, 3, 300, 4464);
            x.sheet(2, 2, 60);
            b.is("the last of 60", x.put(2, 59, Bounds.LEAST), 1);
            b.is("it", x.cell(2, 59, 2), Bounds.LEAST);
            b.is("the one ahead of it", x.cell(2, 58, 2), 0);
        });
        b.says("UNKNOWN", () -> {
            for (int k : Bounds.beyond(0, 3)) {
                b.refusedFaultless(Bounds::full, "sheet " + k, -1, x -> x.put(k, 0, 1));
                b.refusedFaultless(Bounds::full, "ahead of index, sheet " + k, -1, x -> x.put(k, -1, 1));
            }
        });
        b.says("NULL", () -> {
            b.faulted(Bounds::full, "nothing", Bounds.NULL, x -> x.put(2, 0, 1));
            for (int i : Bounds.beyond(0, 60)) {
                b.faulted(Bounds::full, "ahead of index " + i, Bounds.NULL, x -> x.put(2, i, 1));
            }
        });
        b.says("INDEX", () -> {
            for (int i : Bounds.beyond(0, 5)) {
                b.faulted(Bounds::full, "cell " + i, Bounds.INDEX, x -> x.put(1, i, 1));
            }
            b.faulted(Bounds::full, "a cell that another sheet has", Bounds.INDEX, x -> x.put(1, 6, 1));
            b.faulted(() -> withRow(0, 0), "of none", Bounds.INDEX, x -> x.put(2, 0, 1));
            b.faulted(() -> withRow(0, 60), "the 61st", Bounds.INDEX, x -> x.put(2, 60, 1));
        });
    }

    /** As Bounds.full(), with a row on SHEET 2. */
    private static DifferRings withRow(int lane, int n) {
        DifferRings x = Bounds.full();
        x.sheet(2, lane, n);
        return x;
    }

    private void cell() {
        b.section("Promise 22");
        b.says("Cell i of what a SHEET has, taken as a row of a LANE", () -> {
            b.taken(Bounds::full, "the first", 1, x -> x.cell(1, 0, 1));
            b.taken(Bounds::full, "the last", 0, x -> x.cell(1, 5, 1));
            b.taken(Bounds::full, "of bytes", 9, x -> x.cell(0, 6, 0));
            b.taken(Bounds::withoutRing, "of ints", 100000, x -> x.cell(1, 2, 2));
            b.taken(() -> withRow(2, 60), "the last of 60", 0, x -> x.cell(2, 59, 2));
            b.refusedFaultless(Bounds::full, "changes nothing", 300, x -> x.cell(1, 4, 1));
        });
        b.says("LOST: UNKNOWN", () -> {
            for (int k : Bounds.beyond(0, 3)) {
                b.refusedFaultless(Bounds::full, "sheet " + k, Bounds.LOST, x -> x.cell(k, 0, 0));
                b.refusedFaultless(Bounds::full, "ahead of lane, sheet " + k, Bounds.LOST, x -> x.cell(k, -1, 3));
            }
        });
        b.says("OUTSIDE: lane", () -> {
            for (int lane : Bounds.beyond(0, 2)) {
                b.refusedFaultless(Bounds::full, "lane " + lane, Bounds.LOST, x -> x.cell(0, 0, lane));
                b.refusedFaultless(Bounds::full, "ahead of nothing, lane " + lane, Bounds.LOST, x -> x.cell(2, 0, lane));
                b.refusedFaultless(Bounds::full, "ahead of index, lane " + lane, Bounds.LOST, x -> x.cell(0, -1, lane));
            }
        });
        b.says("FAULTS CAST (nothing is no CAST)", () -> {
            int[] laneOf = {0, 1, -1, 0};
            for (int k = 0; k < 4; k++) {
                for (int lane = 0; lane < 3; lane++) {
                    int sheet = k;
                    int as = lane;
                    if (lane != laneOf[k] && k != 2) {
                        b.lost(Bounds::full, k + " as " + lane, Bounds.CAST, x -> x.cell(sheet, 0, as));
                        b.lost(Bounds::full, k + " as " + lane + ", ahead of index", Bounds.CAST, x -> x.cell(sheet, -1, as));
                    }
                }
            }
            b.lost(Bounds::withoutRing, "ints as bytes", Bounds.CAST, x -> x.cell(1, 0, 0));
            b.lost(Bounds::withoutRing, "ints as shorts", Bounds.CAST, x -> x.cell(1, 0, 1));
            b.lost(() -> withRow(1, 0), "a row of none", Bounds.CAST, x -> x.cell(2, 0, 0));
        });
        b.says("NULL", () -> {
            for (int lane = 0; lane < 3; lane++) {
                int as = lane;
                b.lost(Bounds::full, "as " + lane, Bounds.NULL, x -> x.cell(2, 0, as));
                b.lost(Bounds::full, "ahead of index, as " + lane, Bounds.NULL, x -> x.cell(2, -1, as));
            }
        });
        b.says("INDEX", () -> {
            for (int i : Bounds.beyond(0, 5)) {
                b.lost(Bounds::full, "cell " + i, Bounds.INDEX, x -> x.cell(1, i, 1));
            }
            b.lost(() -> withRow(1, 0), "of none", Bounds.INDEX, x -> x.cell(2, 0, 1));
            b.lost(() -> withRow(1, 60), "the 61st", Bounds.INDEX, x -> x.cell(2, 60, 1));
        });
    }

    private static DifferRings forCopies() {
        DifferRings x = new DifferRings();
        Due.fill(x, 0, 1, 1, 2, 3, 4, 300);
        Due.fill(x, 1, 1, 9, 8, 7);
        Due.fill(x, 2, 2, 6, 7);
        return x;
    }

    private void copied(int[] args, long[] first, long[] other) {
        String call = "copy " + args[0] + " " + args[1] + " " + args[2] + " " + args[3] + " " + args[4];
        b.taken(SheetsBounds::forCopies, call, args[4], x -> x.copy(args[0], args[1], args[2], args[3], args[4]));
        DifferRings x = forCopies();
        x.copy(args[0], args[1], args[2], args[3], args[4]);
        cells(call + ", the first", x, 0, 1, first);
        cells(call + ", the other", x, 1, 1, other);
        cells(call + ", the third", x, 2, 2, 6, 7);
    }

    private void copy() {
        b.section("Promise 23");
        b.says("n cells of a SHEET from i on go to another one (perhaps the same) from j on, as they were: n", () -> {
            long[] first = {1, 2, 3, 4, 300};
            long[] other = {9, 8, 7};
            copied(new int[] {0, 0, 1, 0, 3}, first, new long[] {1, 2, 3});
            copied(new int[] {0, 2, 1, 0, 3}, first, new long[] {3, 4, 300});
            copied(new int[] {0, 4, 1, 2, 1}, first, new long[] {9, 8, 300});
            copied(new int[] {1, 0, 0, 2, 3}, new long[] {1, 2, 9, 8, 7}, other);
            copied(new int[] {0, 0, 0, 1, 4}, new long[] {1, 1, 2, 3, 4}, other);
            copied(new int[] {0, 1, 0, 0, 4}, new long[] {2, 3, 4, 300, 300}, other);
            copied(new int[] {0, 0, 0, 0, 5}, first, other);
            copied(new int[] {0, 0, 1, 0, 0}, first, other);
            copied(new int[] {0, 5, 1, 3, 0}, first, other);
            copied(new int[] {0, 5, 0, 5, 0}, first, other);
            DifferRings x = new DifferRings();
            x.sheet(3, 0, 60);
            x.put(3, 0, 5);
            b.is("59 of 60", x.copy(3, 0, 3, 1, 59), 59);
            b.is("the second", x.cell(3, 1, 0), 5);
            b.is("60 of 60", x.copy(3, 0, 3, 0, 60), 60);
            x.sheet(0, 2, 0);
            b.is("none of none", x.copy(0, 0, 0, 0, 0), 0);
            b.is("fault()", x.fault(), 0);
        });
        b.says("UNKNOWN", () -> {
            for (int k : Bounds.beyond(0, 3)) {
                b.refusedFaultless(SheetsBounds::forCopies, "the first " + k, -1, x -> x.copy(k, 0, 1, 0, 1));
                b.refusedFaultless(SheetsBounds::forCopies, "the other " + k, -1, x -> x.copy(0, 0, k, 0, 1));
                b.refusedFaultless(SheetsBounds::forCopies, "ahead of nothing, the first " + k, -1,
                    x -> x.copy(k, -1, 3, -1, -1));
                b.refusedFaultless(SheetsBounds::forCopies, "ahead of nothing, the other " + k, -1,
                    x -> x.copy(3, -1, k, -1, -1));
                b.refusedFaultless(SheetsBounds::forCopies, "both " + k, -1, x -> x.copy(k, 0, k, 0, 0));
            }
        });
    }

    private void copyFaults() {
        b.says("FAULTS NULL (the first, the other)", () -> {
            b.faulted(SheetsBounds::forCopies, "the first", Bounds.NULL, x -> x.copy(3, 0, 0, 0, 1));
            b.faulted(SheetsBounds::forCopies, "the other", Bounds.NULL, x -> x.copy(0, 0, 3, 0, 1));
            b.faulted(SheetsBounds::forCopies, "both", Bounds.NULL, x -> x.copy(3, 0, 3, 0, 0));
            b.faulted(SheetsBounds::forCopies, "the first, ahead of index", Bounds.NULL, x -> x.copy(3, -1, 2, -1, -1));
            b.faulted(SheetsBounds::forCopies, "the other, ahead of index", Bounds.NULL, x -> x.copy(2, -1, 3, -1, -1));
        });
        b.says("CAST (unlike LANES)", () -> {
            b.faulted(SheetsBounds::forCopies, "shorts to ints", Bounds.CAST, x -> x.copy(0, 0, 2, 0, 1));
            b.faulted(SheetsBounds::forCopies, "ints to shorts", Bounds.CAST, x -> x.copy(2, 0, 0, 0, 1));
            b.faulted(SheetsBounds::forCopies, "none of them", Bounds.CAST, x -> x.copy(0, 0, 2, 0, 0));
            b.faulted(SheetsBounds::forCopies, "ahead of index", Bounds.CAST, x -> x.copy(0, -1, 2, 99, -1));
            b.faulted(Bounds::full, "bytes to shorts", Bounds.CAST, x -> x.copy(0, 0, 1, 0, 1));
            b.faulted(Bounds::full, "shorts to bytes", Bounds.CAST, x -> x.copy(1, 0, 0, 0, 1));
        });
        b.says("INDEX: i, j, n below 0 or beyond", () -> {
            // SHEET 0 has five cells, SHEET 1 three.
            for (int i : Bounds.beyond(0, 5)) {
                indexOfCopy("none, i " + i, 0, i, 1, 0, 0);
                indexOfCopy("one, i " + i, 0, i, 1, 0, 1);
            }
            for (int j : Bounds.beyond(0, 3)) {
                indexOfCopy("none, j " + j, 0, 0, 1, j, 0);
                indexOfCopy("one, j " + j, 0, 0, 1, j, 1);
            }
            for (int n : Bounds.beyond(0, 5)) {
                indexOfCopy("in the same, n " + n, 0, 0, 0, 0, n);
                indexOfCopy("from the middle, n " + n, 0, 2, 0, 2, n);
            }
            indexOfCopy("beyond the first alone", 1, 1, 0, 0, 3);
            indexOfCopy("beyond the other alone", 0, 0, 1, 1, 3);
            indexOfCopy("one behind the first", 0, 5, 1, 0, 1);
            indexOfCopy("one behind the other", 0, 0, 1, 3, 1);
            indexOfCopy("in the same, one too far", 0, 1, 0, 0, 5);
            indexOfCopy("in the same, to one too far", 0, 0, 0, 1, 5);
            indexOfCopy("far beyond both", 0, 1, 1, 1, Bounds.MOST);
            indexOfCopy("n below 0 though i is beyond", 0, 6, 1, 0, -1);
        });
    }

    private void indexOfCopy(String call, int k, int i, int other, int j, int n) {
        b.faulted(SheetsBounds::forCopies, call, Bounds.INDEX, x -> x.copy(k, i, other, j, n));
    }

    private void unknownPlaces(java.util.function.BiFunction<DifferRings, Integer, Integer> call) {
        for (int p : Bounds.beyond(0, 3)) {
            b.refused(Bounds::full, "place " + p, -1, x -> call.apply(x, p));
        }
        b.refused(Bounds::withoutRing, "no ring", -1, x -> call.apply(x, 0));
        b.refused(() -> Due.ringOf("r2;p0;p1"), "the third of two", -1, x -> call.apply(x, 2));
        b.refused(() -> Due.ringOf("r2;m0;m1;m0;m0;m0"), "the sixth of five", -1, x -> call.apply(x, 5));
    }

    private void tellAndCall() {
        b.section("Promise 24");
        b.says("TELLING of a PLACE", () -> {
            DifferRings x = Due.ringOf("r6;p0;f0;m0;p5;m5");
            b.row("tell", 0, new long[] {0, 100, 100, 5, 110, -1}, p -> x.tell((int) p));
            x.write(1, 5);
            b.is("of what is written", x.tell(1), 105);
        });
        b.says("UNKNOWN", () -> unknownPlaces(DifferRings::tell));
        b.section("Promise 25");
        b.says("How it is CALLED", () -> {
            DifferRings x = Due.ringOf("r6;p0;f0;m0;p5;m5");
            b.row("call", 0, new long[] {0, 1, 60, 3, 60, -1}, p -> x.call((int) p));
        });
        b.says("UNKNOWN", () -> unknownPlaces(DifferRings::call));
    }

    private void as() {
        b.section("Promise 26");
        Bounds.Maker maker = () -> withRing("r6;p5;f3;m2");
        b.says("A PLACE, taken as one of a kind: 1", () -> {
            for (int p = 0; p < 3; p++) {
                for (int kind = 0; kind <= p; kind++) {
                    int place = p;
                    int of = kind;
                    b.taken(maker, p + " as " + kind, 1, x -> x.as(place, of));
                    b.refusedFaultless(maker, p + " as " + kind, 1, x -> x.as(place, of));
                }
            }
        });
        b.says("UNKNOWN", () -> {
            for (int p : Bounds.beyond(0, 2)) {
                for (int kind = -1; kind <= 3; kind++) {
                    int of = kind;
                    b.refusedFaultless(maker, p + " as " + kind, -1, x -> x.as(p, of));
                }
            }
            b.refusedFaultless(Bounds::withoutRing, "no ring", -1, x -> x.as(0, 0));
        });
        b.says("OUTSIDE", () -> {
            for (int kind : Bounds.beyond(0, 2)) {
                for (int p = 0; p < 3; p++) {
                    int place = p;
                    b.refusedFaultless(maker, p + " as " + kind, -2, x -> x.as(place, kind));
                }
            }
        });
        b.says("CAST: it is none", () -> {
            b.faulted(maker, "0 as 1", Bounds.CAST, x -> x.as(0, 1));
            b.faulted(maker, "0 as 2", Bounds.CAST, x -> x.as(0, 2));
            b.faulted(maker, "1 as 2", Bounds.CAST, x -> x.as(1, 2));
        });
    }

    private static DifferRings withRing(String text) {
        DifferRings x = Bounds.full();
        Due.tell(x, text);
        return x;
    }

    private void traceAndFault() {
        b.section("Promise 27");
        b.says("TRACE", () -> {
            b.is("at first", new DifferRings().trace(), 0);
            b.is("behind a text", Due.ringOf("r2;p0;p1").trace(), 0);
            DifferRings x = Bounds.full();
            int trace = traced(0, 3, 2, 1, 1, 4);
            b.is("behind some", x.trace(), trace);
            b.is("once more", x.trace(), trace);
            Due.tell(x, "r2;p0;p1");
            b.is("another text leaves it", x.trace(), trace);
        });
        b.section("Promise 28");
        b.says("The FAULT of the latest call that names one", () -> {
            DifferRings x = Bounds.full();
            x.put(2, 0, 0);
            b.is("NULL", x.fault(), 1);
            x.cell(1, 0, 0);
            b.is("CAST", x.fault(), 2);
            x.copy(0, 0, 0, 0, 99);
            b.is("INDEX", x.fault(), 3);
            x.sheet(0, 0, -1);
            b.is("SIZE", x.fault(), 4);
            b.is("once more", x.fault(), 4);
            for (Bounds.Ask ask : namesNone()) {
                ask.of(x);
                b.is("a call that names none leaves it", x.fault(), 4);
            }
        });
        b.says("0: it came to none, or was refused", () -> {
            for (Bounds.Ask ask : comesToNone()) {
                DifferRings x = Bounds.full();
                x.sheet(0, 0, -1);
                b.holds("it answers", ask.of(x) >= -9);
                b.is("0", x.fault(), 0);
            }
            for (Bounds.Ask ask : isRefused()) {
                DifferRings x = Bounds.full();
                x.sheet(0, 0, -1);
                b.holds("it is refused", ask.of(x) < 0);
                b.is("0", x.fault(), 0);
            }
        });
        b.says("(0 ahead of any)", () -> {
            DifferRings x = new DifferRings();
            b.is("at first", x.fault(), 0);
            for (Bounds.Ask ask : namesNone()) {
                ask.of(x);
                b.is("by a call that names none", x.fault(), 0);
            }
        });
    }

    private static List<Bounds.Ask> namesNone() {
        return List.of(x -> x.ofPlace(0, 0), x -> x.ofPlace(9, 0), x -> x.write(0, 0), x -> x.write(0, 9), x -> x.steps(1),
            x -> x.steps(0), x -> x.after(0, 1), x -> x.after(0, -1), x -> x.now(0), x -> x.now(9), x -> x.from(0),
            x -> x.from(9), x -> x.rows(0), x -> x.rows(9), x -> x.longest(0), x -> x.longest(9), x -> x.few(0),
            x -> x.few(9), x -> x.reading(0, 0, 0), x -> x.reading(0, 9, 0), x -> x.back(0), x -> x.back(9),
            x -> x.kinds(0), x -> x.kinds(9), x -> x.firsts(0), x -> x.firsts(9), x -> x.odds(0, 0, 0, 0),
            x -> x.odds(9, 0, 0, 0), x -> x.lose(3), x -> x.lose(9), x -> x.tell(0), x -> x.tell(9), x -> x.call(0),
            x -> x.call(9), DifferRings::trace, DifferRings::fault, x -> x.many(0), x -> x.many(9));
    }

    private static List<Bounds.Ask> comesToNone() {
        return List.of(x -> x.ring(3, 0, 0, 14), x -> x.day(1, 1, 0, 1, 0), x -> x.meet(0, 0, 0), x -> x.sheet(0, 0, 1),
            x -> x.put(0, 0, 1), x -> x.cell(0, 0, 0), x -> x.copy(0, 0, 0, 0, 1), x -> x.as(0, 0));
    }

    private static List<Bounds.Ask> isRefused() {
        return List.of(x -> x.ring(9, 0, 0, 14), x -> x.ring(3, 9, 0, 14), x -> x.ring(3, 0, 1, 13), x -> x.day(9, 1, 0, 1, 0),
            x -> x.day(1, 1, 0, 99, 0), x -> x.day(1, 1, 4, 1, 0), x -> x.meet(9, 0, 0), x -> x.meet(0, 9, 0),
            x -> x.meet(0, 0, 3), x -> x.sheet(9, 0, 1), x -> x.sheet(0, 9, 1), x -> x.sheet(0, 0, 61), x -> x.put(9, 0, 1),
            x -> x.cell(9, 0, 0), x -> x.cell(0, 0, 9), x -> x.copy(9, 0, 0, 0, 1), x -> x.copy(0, 0, 9, 0, 1),
            x -> x.as(9, 0), x -> x.as(0, 9));
    }

    private void many() {
        b.section("Promise 29");
        b.says("How many: 0 PLACES", () -> {
            for (int places = 2; places <= 5; places++) {
                b.is(places + " places", Due.ringOf("r6" + ";p0".repeat(places)).many(0), places);
            }
        });
        b.says("1 BASE", () -> {
            for (int base = 2; base <= 6; base++) {
                b.is("base " + base, Due.ringOf("r" + base + ";p0;p1").many(1), base);
            }
        });
        b.says("2 STEPS that were done (by steps())", () -> {
            DifferRings x = Due.ringOf("r5;p4;f1;m3;p0");
            b.is("none", x.many(2), 0);
            x.steps(1);
            b.is("one", x.many(2), 1);
            x.after(0, 5);
            Due.fill(x, 0, 0, 7, 9);
            b.is("a day", x.day(0, 0, 0, 1, 2), 7);
            x.reading(9, 0, 0);
            x.kinds(0);
            x.odds(0, 9, 0, 0);
            x.steps(0);
            x.steps(100);
            b.is("one still", x.many(2), 1);
            for (int k = 1; k <= 400; k++) {
                x.steps(99);
            }
            b.is("many", x.many(2), 39601);
        });
        b.says("3 NUMBERS that are 0", () -> {
            DifferRings x = Due.ringOf("r2;p1;p1;p1;p1;p1");
            for (int p = 0; p < 5; p++) {
                b.is("zeros", x.many(3), p);
                x.write(p, 0);
            }
            b.is("all", x.many(3), 5);
        });
        b.says("4 READINGS", () -> {
            DifferRings x = Due.ringOf("r2;p1;p1");
            for (int k = 0; k < 8; k++) {
                b.is("readings", x.many(4), k);
                x.reading(0, 0, 0);
            }
            b.is("readings", x.many(4), 8);
            x.reading(0, 0, 0);
            b.is("readings", x.many(4), 8);
            x.back(8);
            b.is("readings", x.many(4), 0);
        });
        b.says("(0 all without a RING)", () -> {
            DifferRings x = Bounds.withoutRing();
            b.row("many", -1, new long[] {-2, 0, 0, 0, 0, 0, -2}, k -> x.many((int) k));
            x.ring(0, 0, 0, 5);
            b.row("many behind a text with a fault", -1, new long[] {-2, 0, 0, 0, 0, 0, -2}, k -> x.many((int) k));
        });
        b.says("OUTSIDE", () -> {
            for (int what : Bounds.beyond(0, 4)) {
                b.refused(Bounds::full, "what " + what, -2, x -> x.many(what));
                b.refused(Bounds::withoutRing, "without a ring, what " + what, -2, x -> x.many(what));
            }
        });
    }
}
