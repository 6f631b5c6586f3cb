/** What the document says of all calls: its use and its terms. */
final class TermsBounds {
    private final Bounds b;

    TermsBounds(Bounds b) {
        this.b = b;
    }

    void run() {
        use();
        refusals();
        orderOfRefusals();
        changeNothing();
        faults();
        orderOfFaults();
        answers();
    }

    private void use() {
        b.section("Use");
        b.says("An object is used for at most 512 calls after it has been made; what later calls answer is free.", () -> {
            DifferRings x = Due.ringOf("r6;p5;m4;m3;f2;m1");
            // A SHEET, 17 cells and a RING are 19 calls.
            for (int call = 20; call < 512; call++) {
                b.is("step " + call, x.steps(1), x.many(3));
                call++;
            }
            b.is("the 512th call", x.rows(3), 1498);
            DifferRings bodies = Due.ringOf("r2;m0;m1");
            int trace = 0;
            for (int call = 12; call <= 512; call++) {
                bodies.call(0);
                trace = 31 * trace + 5;
            }
            b.is("trace of 501 calls", bodies.trace(), trace);
        });
    }

    private void refusals() {
        b.section("Terms");
        b.says("REFUSALS: UNKNOWN (there is no such PLACE, SHEET, place of a row)", () -> {
            b.is("UNKNOWN", DifferRings.UNKNOWN, -1);
            for (int p : Bounds.beyond(0, 3)) {
                b.refused(Bounds::full, "place " + p, DifferRings.UNKNOWN, x -> x.ofPlace(p, 0));
            }
            for (int k : Bounds.beyond(0, 3)) {
                b.refused(Bounds::full, "sheet " + k, DifferRings.UNKNOWN, x -> x.lose(k));
            }
        });
        b.says("OUTSIDE (another number is not as told)", () -> {
            b.is("OUTSIDE", DifferRings.OUTSIDE, -2);
            b.refused(Bounds::full, "what", DifferRings.OUTSIDE, x -> x.many(5));
            b.refusedFaultless(Bounds::full, "lane", DifferRings.OUTSIDE, x -> x.sheet(0, 3, 0));
        });
        b.says("STATE (as told)", () -> {
            b.is("STATE", DifferRings.STATE, -3);
            b.refused(Bounds::withoutRing, "no ring", DifferRings.STATE, x -> x.rows(0));
        });
        b.says("FULL", () -> {
            b.is("FULL", DifferRings.FULL, -4);
            b.refused(Bounds::fullOfReadings, "a ninth reading", DifferRings.FULL, x -> x.reading(0, 0, 0));
        });
    }

    private void orderOfRefusals() {
        b.says("of several the first in the order in which a call's line tells them.", () -> {
            b.refusedFaultless(Bounds::full, "ring: unknown, outside", -1, x -> x.ring(4, 3, 0, 0));
            b.refused(Bounds::full, "ofPlace: unknown, outside", -1, x -> x.ofPlace(4, 3));
            b.refused(Bounds::full, "write: unknown, outside", -1, x -> x.write(4, 5));
            b.refused(Bounds::withoutRing, "steps: outside, state", -2, x -> x.steps(0));
            b.refused(Bounds::full, "after: unknown, outside", -1, x -> x.after(4, -1));
            b.refusedFaultless(Bounds::withoutRing, "day: unknown, outside, state", -1, x -> x.day(4, 3, 0, 21, 5));
            b.refusedFaultless(Bounds::withoutRing, "day: outside, state", -2, x -> x.day(0, 0, 0, 21, 0));
            b.refusedFaultless(Bounds::withoutRing, "day: state, outside of a pair", -3, x -> x.day(0, 0, 3, 1, 0));
            b.refused(Bounds::withoutRing, "now: outside, state", -2, x -> x.now(3));
            b.refused(Bounds::withoutRing, "from: outside, state", -2, x -> x.from(5));
            b.refused(Bounds::withoutRing, "rows: outside, state", -2, x -> x.rows(5));
            b.refused(Bounds::withoutRing, "longest: outside, state", -2, x -> x.longest(5));
            b.refusedFaultless(Bounds::withoutRing, "meet: state, unknown, outside", -3, x -> x.meet(4, 3, 0));
            b.refusedFaultless(Bounds::full, "meet: unknown, outside", -1, x -> x.meet(4, 3, 0));
            b.refused(Bounds::withoutRing, "few: outside, state", -2, x -> x.few(2));
            b.refused(Bounds::fullOfReadings, "reading: unknown, outside, full", -1, x -> x.reading(100, 4, 6));
            b.refused(Bounds::fullOfReadings, "reading: outside, full", -2, x -> x.reading(100, 0, 0));
            b.refusedFaultless(Bounds::full, "sheet: unknown, outside", -1, x -> x.sheet(4, 3, 61));
            b.refusedFaultless(Bounds::full, "as: unknown, outside", -1, x -> x.as(4, 3));
        });
    }

    private void changeNothing() {
        b.says("They change nothing (but fault(), of a call that names FAULTS).", () -> {
            Bounds.Maker[] makers = {DifferRings::new, Bounds::withoutRing, Bounds::full, Bounds::fullOfReadings};
            for (Bounds.Maker maker : makers) {
                b.refusedFaultless(maker, "ring", -1, x -> x.ring(4, 0, 0, 0));
                b.refusedFaultless(maker, "ring", -2, x -> x.ring(0, 3, 0, 0));
                b.refused(maker, "ofPlace", -1, x -> x.ofPlace(5, 0));
                b.refused(maker, "write", -1, x -> x.write(5, 0));
                b.refused(maker, "steps", -2, x -> x.steps(100));
                b.refused(maker, "after", -1, x -> x.after(5, 0));
                b.refusedFaultless(maker, "day", -1, x -> x.day(4, 0, 0, 0, 0));
                b.refusedFaultless(maker, "day", -2, x -> x.day(0, 0, 0, 0, 5));
                b.refused(maker, "now", -2, x -> x.now(3));
                b.refused(maker, "from", -2, x -> x.from(5));
                b.refused(maker, "rows", -2, x -> x.rows(5));
                b.refused(maker, "longest", -2, x -> x.longest(5));
                b.refused(maker, "few", -2, x -> x.few(2));
                b.refused(maker, "reading", -1, x -> x.reading(0, 5, 0));
                b.refused(maker, "back", -2, x -> x.back(9));
                b.refused(maker, "kinds", -1, x -> x.kinds(5));
                b.refused(maker, "firsts", -1, x -> x.firsts(5));
                b.refused(maker, "odds", Bounds.LOST, x -> x.odds(5, 0, 0, 0));
                b.refusedFaultless(maker, "sheet", -1, x -> x.sheet(4, 0, 1));
                b.refusedFaultless(maker, "sheet", -2, x -> x.sheet(0, 0, 61));
                b.refused(maker, "lose", -1, x -> x.lose(4));
                b.refusedFaultless(maker, "put", -1, x -> x.put(4, 0, 1));
                b.refusedFaultless(maker, "cell", Bounds.LOST, x -> x.cell(4, 0, 0));
                b.refusedFaultless(maker, "copy", -1, x -> x.copy(0, 0, 4, 0, 0));
                b.refused(maker, "tell", -1, x -> x.tell(5));
                b.refused(maker, "call", -1, x -> x.call(5));
                b.refusedFaultless(maker, "as", -1, x -> x.as(5, 0));
                b.refused(maker, "many", -2, x -> x.many(5));
            }
        });
    }

    private void faults() {
        b.says("FAULTS are the machine's: 1 NULL (there is nothing)", () -> {
            b.faulted(Bounds::full, "ring", 1, x -> x.ring(2, 0, 0, 0));
            b.faulted(Bounds::full, "day", 1, x -> x.day(2, 0, 0, 0, 0));
            b.faulted(Bounds::full, "meet", 1, x -> x.meet(2, 0, 0));
            b.faulted(Bounds::full, "put", 1, x -> x.put(2, 0, 0));
            b.lost(Bounds::full, "cell", 1, x -> x.cell(2, 0, 0));
            b.faulted(Bounds::full, "copy", 1, x -> x.copy(2, 0, 0, 0, 0));
        });
        b.says("2 CAST (it is of another LANE, kind)", () -> {
            b.faulted(Bounds::full, "ring", 2, x -> x.ring(0, 1, 0, 0));
            b.faulted(Bounds::full, "day", 2, x -> x.day(0, 1, 0, 0, 0));
            b.faulted(Bounds::full, "meet", 2, x -> x.meet(0, 1, 0));
            b.lost(Bounds::full, "cell", 2, x -> x.cell(0, 0, 1));
            b.faulted(Bounds::full, "copy", 2, x -> x.copy(0, 0, 1, 0, 0));
            b.faulted(Bounds::full, "as", 2, x -> x.as(0, 1));
        });
        b.says("3 INDEX (of cells from i on also where i is not 0 .. how many there are, if none of them is taken, too)",
            () -> {
                // SHEET 0 has seven cells.
                for (int i : Bounds.beyond(0, 7)) {
                    b.faulted(Bounds::full, "ring, none from " + i, 3, x -> x.ring(0, 0, i, 0));
                    b.faulted(Bounds::full, "day, none from " + i, 3, x -> x.day(0, 0, i, 0, 0));
                    b.faulted(Bounds::full, "copy, none from " + i, 3, x -> x.copy(0, i, 0, 0, 0));
                    b.faulted(Bounds::full, "copy, none to " + i, 3, x -> x.copy(0, 0, 0, i, 0));
                    b.faulted(Bounds::full, "meet from " + i, 3, x -> x.meet(0, 0, i));
                }
                for (int i : new int[] {0, 7}) {
                    b.taken(Bounds::full, "ring, none from " + i, -100, x -> x.ring(0, 0, i, 0));
                    b.taken(Bounds::full, "day, none from " + i, 8, x -> x.day(0, 0, i, 0, 0));
                    b.taken(Bounds::full, "copy, none from and to " + i, 0, x -> x.copy(0, i, 0, i, 0));
                }
                for (int i : Bounds.beyond(0, 6)) {
                    b.faulted(Bounds::full, "put " + i, 3, x -> x.put(0, i, 0));
                    b.lost(Bounds::full, "cell " + i, 3, x -> x.cell(0, i, 0));
                }
            });
        b.says("4 SIZE (a length below 0)", () -> {
            for (int n : new int[] {-1, Bounds.LEAST}) {
                b.faulted(Bounds::full, "ring, n " + n, 4, x -> x.ring(0, 0, 0, n));
                b.faulted(Bounds::full, "sheet, n " + n, 4, x -> x.sheet(0, 0, n));
                b.faulted(Bounds::full, "copy names no size, n " + n, 3, x -> x.copy(0, 0, 0, 0, n));
                b.refusedFaultless(Bounds::full, "day names no size, n " + n, -2, x -> x.day(0, 0, 0, n, 0));
            }
        });
    }

    private void orderOfFaults() {
        b.says("Of a call the first that is come to, in the order told", () -> {
            b.faulted(Bounds::full, "ring: cast, size, index", 2, x -> x.ring(0, 1, -1, -1));
            b.faulted(Bounds::full, "ring: null, size, index", 1, x -> x.ring(2, 1, -1, -1));
            b.faulted(Bounds::full, "ring: size, index", 4, x -> x.ring(0, 0, -1, -1));
            b.faulted(Bounds::full, "ring: index ahead of the text", 3, x -> x.ring(0, 0, 0, 8));
            b.faulted(Bounds::full, "day: cast, index", 2, x -> x.day(0, 1, -1, 1, 0));
            b.faulted(Bounds::full, "day: null, index", 1, x -> x.day(2, 1, -1, 1, 0));
            b.faulted(Bounds::full, "day: index ahead of a pair", 3, x -> x.day(1, 1, 4, 2, 0));
            b.faulted(Bounds::full, "meet: cast, index", 2, x -> x.meet(0, 1, -1));
            b.faulted(Bounds::full, "meet: null, index", 1, x -> x.meet(2, 1, -1));
            b.faulted(Bounds::full, "meet: index ahead of a cell", 3, x -> x.meet(0, 0, 4));
            b.faulted(Bounds::full, "put: null, index", 1, x -> x.put(2, -1, 0));
            b.lost(Bounds::full, "cell: cast, index", 2, x -> x.cell(0, -1, 1));
            b.lost(Bounds::full, "cell: null, index", 1, x -> x.cell(2, -1, 1));
            b.faulted(Bounds::full, "copy: null of the first, index", 1, x -> x.copy(2, -1, 0, -1, -1));
            b.faulted(Bounds::full, "copy: null of the other, index", 1, x -> x.copy(0, -1, 2, -1, -1));
            b.faulted(Bounds::full, "copy: cast, index", 2, x -> x.copy(0, -1, 1, -1, -1));
        });
    }

    private void answers() {
        b.says("it answers -10 less it (LOST, where a long is answered, as for refusals) and changes nothing", () -> {
            b.is("LOST", DifferRings.LOST, Long.MIN_VALUE);
            b.faulted(Bounds::fullOfReadings, "-11", 1, x -> x.put(2, 0, 0));
            b.faulted(Bounds::fullOfReadings, "-12", 2, x -> x.as(0, 1));
            b.faulted(Bounds::fullOfReadings, "-13", 3, x -> x.put(0, -1, 0));
            b.faulted(Bounds::fullOfReadings, "-14", 4, x -> x.sheet(0, 0, -1));
            b.lost(Bounds::fullOfReadings, "LOST by nothing", 1, x -> x.cell(2, 0, 0));
            b.lost(Bounds::fullOfReadings, "LOST by a cast", 2, x -> x.cell(0, 0, 1));
            b.lost(Bounds::fullOfReadings, "LOST by an index", 3, x -> x.cell(0, 7, 0));
            b.refusedFaultless(Bounds::fullOfReadings, "LOST as refused", DifferRings.LOST, x -> x.cell(4, 0, 0));
            b.refused(Bounds::fullOfReadings, "LOST as refused", DifferRings.LOST, x -> x.odds(4, 0, 0, 0));
        });
        b.says("fault() tells it.", () -> {
            DifferRings x = Bounds.full();
            int[] faults = new int[5];
            x.put(2, 0, 0);
            faults[1] = x.fault();
            x.as(0, 1);
            faults[2] = x.fault();
            x.put(0, -1, 0);
            faults[3] = x.fault();
            x.sheet(0, 0, -1);
            faults[4] = x.fault();
            b.row("fault", 0, new long[] {0, 1, 2, 3, 4}, k -> faults[(int) k]);
        });
        b.says("NONE is -9.", () -> {
            b.is("NONE", DifferRings.NONE, -9);
            b.is("no such place", Due.ringOf("r2;p0;p1").longest(2), -9);
            b.is("no row comes to it", Due.ringOf("r2;p0;p1").from(0), -9);
        });
        b.says("Sets are told as bits (bit k for number k).", () -> {
            DifferRings x = Due.ringOf("r6;p5;p5;p5;p5;p0");
            b.is("no bits", Due.ringOf("r6;p5;p5").few(1), 0);
            b.is("bit 4", x.few(1), 16);
            b.is("bits 0 to 5", x.firsts(0), 63);
            b.is("bits 0 to 2", x.kinds(0), 7);
            x.reading(0, 0, 5);
            b.is("bit 5", x.firsts(0), 32);
        });
        b.says("Shares are told as upper and lower number (above 0) in least terms.", () -> {
            DifferRings x = Due.ringOf("r6;p0;p0");
            long[] upper = {1, 5, 2, 1, 1, 1};
            long[] lower = {6, 18, 9, 6, 9, 18};
            b.row("upper", 0, upper, v -> x.odds(0, 1, (int) v, 0));
            b.row("lower", 0, lower, v -> x.odds(0, 1, (int) v, 1));
            b.is("none, upper", x.odds(0, 2, 1, 0), 0);
            b.is("none, lower", x.odds(0, 2, 1, 1), 1);
            b.is("all, upper", x.odds(0, 2, 0, 0), 1);
            b.is("all, lower", x.odds(0, 2, 0, 1), 1);
        });
    }
}
