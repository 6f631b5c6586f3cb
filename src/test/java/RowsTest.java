/** Promises 8 to 13: now, from, rows, longest, meet, few. */
public final class RowsTest {
    private static final Due DUE = new Due("RowsTest");

    public static void main(String[] args) {
        withoutRing();
        answers("r5;p4;f1;m3;p0", new long[] {4, 3, 0}, new long[] {625, 1, 530, 5, 8}, new long[] {5, 0, 2, 4, 0, -9},
            new long[] {0, -9, -9, -9, -9, -9}, new long[] {3, 7});
        answers("r6;p0;f1;m2;p3;f5", new long[] {2, 3, 0}, new long[] {7776, 6, 7087, 12, 38},
            new long[] {7, 0, 5, 0, 0, 1}, new long[] {0, -9, -9, -9, -9, -9}, new long[] {3, 11});
        answers("r6;p5;m4;m3;f2;m1", new long[] {5, 1, 1}, new long[] {7776, 3, 6070, 1498, 10},
            new long[] {14, 2, 3, 0, 2, 5}, new long[] {0, -9, -9, -9, -9, -9}, new long[] {0, 0});
        answers("r4;p3;p0;p1;p2", new long[] {5, 1, 1}, new long[] {256, 1, 176, 256, 1},
            new long[] {6, 0, 0, 1, 3, -9}, new long[] {2, 0, 3, 3, 2, -9}, new long[] {0, 0});
        answers("r4;p1;p0;p1;p0", new long[] {2, 1, 1}, new long[] {256, 1, 176, 256, 1},
            new long[] {6, 0, 0, 1, 3, -9}, new long[] {6, 0, 1, 1, 0, -9}, new long[] {0, 0});
        answers("r5;m1;p2;f3", new long[] {2, 4, 0}, new long[] {125, 1, 110, 65, 2},
            new long[] {2, 0, 0, 1, -9, -9}, new long[] {0, -9, -9, -9, -9, -9}, new long[] {1, 1});
        answers("r6;m5;f3", new long[] {1, 1, 0}, new long[] {36, 6, 30, 6, 6},
            new long[] {1, 0, 1, -9, -9, -9}, new long[] {0, -9, -9, -9, -9, -9}, new long[] {1, 1});
        answers("r2;m1;m0;m1;m1;p0", new long[] {2, 7, 0}, new long[] {32, 1, 16, 4, 2},
            new long[] {2, 0, 0, 0, 0, 1}, new long[] {0, -9, -9, -9, -9, -9}, new long[] {2, 6});
        answers("r2;f1;f0", new long[] {1, 1, 1}, new long[] {4, 1, 3, 4, 1},
            new long[] {1, 0, 1, -9, -9, -9}, new long[] {0, -9, -9, -9, -9, -9}, new long[] {0, 0});
        answers("r2;f0;f0", new long[] {0, 1, 1}, new long[] {4, 1, 3, 4, 1},
            new long[] {1, 0, 1, -9, -9, -9}, new long[] {4, 0, 0, -9, -9, -9}, new long[] {0, 0});
        asTheyAreNow();
        meet();
        meetRefusedAndFaulted();
        DUE.end();
    }

    private static void withoutRing() {
        DifferRings x = new DifferRings();
        DUE.row("no ring: now", new long[] {-3, -3, -3, -2}, k -> x.now((int) k));
        DUE.row("no ring: from", new long[] {-2, -3, -3, -3, -3, -3, -3, -2}, k -> x.from((int) k - 2));
        DUE.row("no ring: rows", new long[] {-3, -3, -3, -3, -3, -2}, k -> x.rows((int) k));
        DUE.row("no ring: longest", new long[] {-2, -3, -3, -3, -3, -3, -3, -2}, k -> x.longest((int) k - 2));
        DUE.row("no ring: few", new long[] {-3, -3, -2}, k -> x.few((int) k));
        DUE.is("no ring: meet", x.meet(4, 3, 0), -3);
    }

    private static void answers(String text, long[] now, long[] rows, long[] longest, long[] from, long[] few) {
        DUE.row(text + " now, asked first", now, k -> Due.ringOf(text).now((int) k));
        DUE.row(text + " rows, asked first", rows, k -> Due.ringOf(text).rows((int) k));
        DUE.row(text + " longest, less 1, asked first", longest, k -> Due.ringOf(text).longest((int) k - 1));
        DUE.row(text + " from, less 1, asked first", from, k -> Due.ringOf(text).from((int) k - 1));
        DUE.row(text + " few, asked first", few, k -> Due.ringOf(text).few((int) k));
        DifferRings x = Due.ringOf(text);
        DUE.row(text + " few", few, k -> x.few((int) k));
        DUE.row(text + " now", now, k -> x.now((int) k));
        DUE.row(text + " rows", rows, k -> x.rows((int) k));
        DUE.row(text + " longest, less 1", longest, k -> x.longest((int) k - 1));
        DUE.row(text + " from, less 1", from, k -> x.from((int) k - 1));
        DUE.is(text + " now(3)", x.now(3), -2);
        DUE.is(text + " now(-1)", x.now(-1), -2);
        DUE.is(text + " rows(5)", x.rows(5), -2);
        DUE.is(text + " rows(-1)", x.rows(-1), -2);
        DUE.is(text + " longest(5)", x.longest(5), -2);
        DUE.is(text + " longest(-2)", x.longest(-2), -2);
        DUE.is(text + " from(5)", x.from(5), -2);
        DUE.is(text + " from(-2)", x.from(-2), -2);
        DUE.is(text + " few(2)", x.few(2), -2);
        DUE.is(text + " few(-1)", x.few(-1), -2);
        for (int p = 0; p < x.many(0); p++) {
            DUE.is(text + " number " + p, x.ofPlace(p, 1), text.charAt(4 + 3 * p) - '0');
        }
    }

    private static void asTheyAreNow() {
        DifferRings x = Due.ringOf("r3;p1;p2;p0");
        DUE.row("now", new long[] {2, 3, 0}, k -> x.now((int) k));
        DUE.row("few", new long[] {2, 3}, k -> x.few((int) k));
        x.steps(1);
        DUE.row("a step later", new long[] {1, 3, 0}, k -> x.now((int) k));
        // 1 2 1 comes of 0 1 2 swapped: ROWS whose PLACES differ by 1, 2, 1.
        DUE.row("from, less 1", new long[] {2, 1, 0, 2, -9, -9}, k -> x.from((int) k - 1));
        DUE.row("few", new long[] {1, 2}, k -> x.few((int) k));
        for (int p = 0; p < 3; p++) {
            x.write(p, 2);
        }
        DUE.row("all alike", new long[] {1, 1, 1}, k -> x.now((int) k));
        DUE.row("few", new long[] {0, 0}, k -> x.few((int) k));
        x.steps(1);
        DUE.row("out", new long[] {0, 1, 1}, k -> x.now((int) k));
        DUE.row("from, less 1", new long[] {3, 0, 0, 0, -9, -9}, k -> x.from((int) k - 1));
        DUE.row("rows are the same", new long[] {27, 1, 17, 3, 3}, k -> x.rows((int) k));
    }

    private static void meet() {
        DifferRings x = Due.ringOf("r4;p3;p0;p1;p2");
        Due.fill(x, 0, 0, 3, 0, 1, 2, 0, 3, 2, 1, 1, 1, 1, 1, 0, 0, 0, 0);
        DUE.is("itself", x.meet(0, 0, 0), 0);
        DUE.is("by its other side", x.meet(0, 0, 4), 1);
        DUE.is("all alike, out first", x.meet(0, 0, 8), 5);
        DUE.is("out", x.meet(0, 0, 12), 5);
        DUE.row("nothing changed", new long[] {3, 0, 1, 2}, k -> x.ofPlace((int) k, 1));
        x.write(0, 0);
        x.write(2, 1);
        x.write(3, 3);
        DUE.is("behind as many as the longest takes", x.meet(0, 0, 12), 6);
        DifferRings y = Due.ringOf("r3;p1;p1;p0");
        Due.fill(y, 1, 2, 0, 1, 1, 1, 0, 1, 1, 2, 0, 0, 0, 0, 1, 1, 2, 2);
        DUE.is("as far behind in the same round", y.meet(1, 2, 0), -9);
        DUE.is("two behind in the same round", y.meet(1, 2, 3), -9);
        DUE.is("out and round", y.meet(1, 2, 9), -9);
        DUE.is("the last three", y.meet(1, 2, 13), -9);
        y.steps(1);
        DUE.is("there now", y.meet(1, 2, 0), 0);
    }

    private static void meetRefusedAndFaulted() {
        DifferRings x = Due.ringOf("r3;p1;p1;p0");
        Due.fill(x, 1, 1, 0, 1, 1, 3, 0, 0, -1, 0, 0);
        DUE.faults(x, "sheet 4", () -> x.meet(4, 3, 0), -1, 0);
        DUE.faults(x, "sheet -1", () -> x.meet(-1, 0, 0), -1, 0);
        DUE.faults(x, "lane 3", () -> x.meet(1, 3, 0), -2, 0);
        DUE.faults(x, "cast", () -> x.meet(1, 2, -1), -12, 2);
        DUE.faults(x, "nothing", () -> x.meet(0, 2, -1), -11, 1);
        DUE.faults(x, "i below", () -> x.meet(1, 1, -1), -13, 3);
        DUE.faults(x, "beyond", () -> x.meet(1, 1, 7), -13, 3);
        DUE.faults(x, "far beyond", () -> x.meet(1, 1, Integer.MAX_VALUE), -13, 3);
        DUE.faults(x, "a number as great as base", () -> x.meet(1, 1, 1), -2, 0);
        DUE.faults(x, "a number below 0", () -> x.meet(1, 1, 6), -2, 0);
        DUE.faults(x, "taken", () -> x.meet(1, 1, 0), -9, 0);
        DUE.row("nothing changed", new long[] {1, 1, 0}, k -> x.ofPlace((int) k, 1));
    }
}
