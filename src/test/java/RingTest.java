/** Promises 1 to 4: a new object, ring, ofPlace, write. */
public final class RingTest {
    private static final Due DUE = new Due("RingTest");

    public static void main(String[] args) {
        newObject();
        textsTaken();
        textsWithFault();
        ringRefusedAndFaulted();
        allMadeAnew();
        faultyTextChangesNothing();
        ofPlace();
        write();
        DUE.end();
    }

    private static void newObject() {
        DifferRings x = new DifferRings();
        DUE.row("new: many", new long[] {0, 0, 0, 0, 0}, k -> x.many((int) k));
        DUE.row("new: lose", new long[] {0, 0, 0, 0}, k -> x.lose((int) k));
        DUE.is("new: fault", x.fault(), 0);
        DUE.is("new: trace", x.trace(), 0);
        DUE.is("new: ofPlace", x.ofPlace(0, 0), -1);
        DUE.is("new: write", x.write(0, 0), -1);
        DUE.is("new: after", x.after(0, 0), -1);
        DUE.is("new: reading", x.reading(0, 0, 0), -1);
        DUE.is("new: kinds", x.kinds(0), -1);
        DUE.is("new: firsts", x.firsts(0), -1);
        DUE.is("new: odds", x.odds(0, 0, 0, 0), DifferRings.LOST);
        DUE.is("new: tell", x.tell(0), -1);
        DUE.is("new: call", x.call(0), -1);
        DUE.is("new: as", x.as(0, 0), -1);
        DUE.is("new: back(0)", x.back(0), 0);
        DUE.is("new: back(1)", x.back(1), -2);
        for (int k = 0; k < 4; k++) {
            int sheet = k;
            DUE.faults(x, "new: cell", () -> x.cell(sheet, 0, 0), DifferRings.LOST, 1);
        }
    }

    private static void textsTaken() {
        String[] texts = {"r2;p0;p1", "r3;p0;f2;m1", "r5;p4;f1;m3;p0", "r6;m5;m4;m3;m2;m1"};
        for (String text : texts) {
            for (int lane = 0; lane < 3; lane++) {
                DifferRings x = new DifferRings();
                Due.fill(x, lane, lane, Due.codes("xy" + text + "z"));
                DUE.is("ring of " + text, x.ring(lane, lane, 2, text.length()), (text.length() - 2) / 3);
                DUE.is("base of " + text, x.many(1), text.charAt(1) - '0');
                for (int at = 3; at < text.length(); at += 3) {
                    DUE.is("kind in " + text, x.ofPlace(at / 3 - 1, 0), "pfm".indexOf(text.charAt(at)));
                    DUE.is("number in " + text, x.ofPlace(at / 3 - 1, 1), text.charAt(at + 1) - '0');
                }
            }
        }
    }

    private static void textsWithFault() {
        String[] texts = {"", "x", "r", "r1", "r7", "r;", "r2", "r2p", "r2;", "r2;x", "r2;;", "r2;p", "r2;p2", "r5;m5",
            "r2;p-", "r2;p1", "r2;p1p", "r2;p1;", "r2;p1;f", "r2;p1;f2", "r2;p1;f1;", "r2;p1;f1 ", "r2;p1;f1p1",
            "r6;p0;p0;p0;p0;p0;", "r6;p0;p0;p0;p0;p0;p0", "r6;p0;p0;p0;p0;p0p", "r6;p6", "R2;p0;p0", "r2;P0;p0",
            "r6;p0;p0;p0;p0;p"};
        int[] faults = {0, 0, 1, 1, 1, 1, 2, 2, 3, 3, 3, 4, 4, 4,
            4, 5, 5, 6, 7, 7, 9, 8, 8,
            17, 17, 17, 4, 0, 3,
            16};
        for (int k = 0; k < texts.length; k++) {
            DifferRings x = new DifferRings();
            DUE.is("ring of '" + texts[k] + "'", Due.tell(x, texts[k]), -100 - faults[k]);
            DUE.is("fault() behind it", x.fault(), 0);
            DUE.is("places of '" + texts[k] + "'", x.many(0), 0);
        }
        DifferRings wide = new DifferRings();
        Due.fill(wide, 0, 2, 'r' + 256, '2', ';', 'p', '0', ';', 'p', '0');
        DUE.is("a code beyond 255", wide.ring(0, 2, 0, 8), -100);
        Due.fill(wide, 0, 0, 'r' + 256, '2', ';', 'p', '0', ';', 'p', '0');
        DUE.is("cut to its lane", wide.ring(0, 0, 0, 8), 2);
    }

    private static void ringRefusedAndFaulted() {
        DifferRings x = new DifferRings();
        Due.fill(x, 0, 0, Due.codes("r2;p0;p1"));
        DUE.faults(x, "sheet 4", () -> x.ring(4, 3, 0, -1), -1, 0);
        DUE.faults(x, "sheet -1", () -> x.ring(-1, 0, 0, 8), -1, 0);
        DUE.faults(x, "lane 3", () -> x.ring(1, 3, -1, -1), -2, 0);
        DUE.faults(x, "lane -1", () -> x.ring(0, -1, 0, 8), -2, 0);
        DUE.faults(x, "nothing is no cast", () -> x.ring(1, 2, -1, -1), -11, 1);
        DUE.faults(x, "cast", () -> x.ring(0, 1, -1, -1), -12, 2);
        DUE.faults(x, "size", () -> x.ring(0, 0, -1, -1), -14, 4);
        DUE.faults(x, "least size", () -> x.ring(0, 0, 0, Integer.MIN_VALUE), -14, 4);
        DUE.faults(x, "i below", () -> x.ring(0, 0, -1, 0), -13, 3);
        DUE.faults(x, "i beyond", () -> x.ring(0, 0, 9, 0), -13, 3);
        DUE.faults(x, "n beyond", () -> x.ring(0, 0, 0, 9), -13, 3);
        DUE.faults(x, "n far beyond", () -> x.ring(0, 0, 1, Integer.MAX_VALUE), -13, 3);
        DUE.faults(x, "i far beyond", () -> x.ring(0, 0, Integer.MAX_VALUE, 1), -13, 3);
        DUE.faults(x, "none at the end", () -> x.ring(0, 0, 8, 0), -100, 0);
        DUE.faults(x, "a ring at last", () -> x.ring(0, 0, 0, 8), 2, 0);
    }

    private static void allMadeAnew() {
        DifferRings x = Due.ringOf("r5;p4;f1;m3;p0");
        x.steps(7);
        x.reading(1, 3, 4);
        x.reading(1, 0, 4);
        x.rows(0);
        x.odds(0, 3, 0, 0);
        DUE.is("another ring", Due.tell(x, "r3;p1;p2;p0"), 3);
        DUE.row("anew: many", new long[] {3, 3, 0, 1, 0}, k -> x.many((int) k));
        DUE.is("anew: rows", x.rows(0), 27);
        DUE.is("anew: rounds", x.rows(4), 3);
        DUE.is("anew: kinds", x.kinds(0), 7);
        // Of 9 pairs 3 are alike; behind 3 STEPS of the RING ahead it was another share.
        DUE.is("anew: odds", x.odds(0, 1, 0, 1), 3);
        DUE.is("anew: no place 3", x.ofPlace(3, 1), -1);
        DUE.is("the same ring once more", Due.tell(x, "r3;p1;p2;p0"), 3);
        DUE.row("once more: number", new long[] {1, 2, 0, -1}, k -> x.ofPlace((int) k, 1));
        DUE.is("a greater ring", Due.tell(x, "r6;p0;f1;m2;p3;f5"), 5);
        DUE.row("greater: rows", new long[] {7776, 6, 7087, 12, 38}, k -> x.rows((int) k));
        DUE.is("a lesser ring", Due.tell(x, "r2;p0;p1"), 2);
        DUE.row("lesser: rows", new long[] {4, 1, 2, 4, 1}, k -> x.rows((int) k));
        DUE.row("lesser: longest, less 1", new long[] {2, 0, 1, -9, -9, -9}, k -> x.longest((int) k - 1));
        DUE.row("lesser: now", new long[] {2, 1, 1}, k -> x.now((int) k));
        x.steps(2);
        DUE.row("lesser: out", new long[] {0, 1, 1}, k -> x.now((int) k));
        DUE.is("lesser: zeros", x.many(3), 2);
        DUE.is("lesser: all numbers of a day", x.day(3, 0, 0, 0, 0), 0);
        DUE.is("lesser: never 1 behind 2", x.odds(0, 2, 1, 0), 0);
        DUE.is("one as great", Due.tell(x, "r2;m1;m0"), 2);
        // Of two, MIXED ones are as PLAIN ones: a FAR one is 0 by itself.
        DUE.is("as great: 0 behind 2", x.odds(0, 2, 0, 1), 1);
        DUE.is("one more as great", Due.tell(x, "r2;f1;p1"), 2);
        DUE.row("as great: rows", new long[] {4, 2, 2, 2, 2}, k -> x.rows((int) k));
        DUE.row("as great: longest, less 1", new long[] {1, 1, 0, -9, -9, -9}, k -> x.longest((int) k - 1));
        DUE.is("as great: 1 behind 2", x.odds(1, 2, 1, 1), 2);
    }

    private static void faultyTextChangesNothing() {
        DifferRings x = Due.ringOf("r5;p4;f1;m3;p0");
        x.steps(2);
        x.reading(0, 0, 2);
        x.reading(0, 1, 2);
        DUE.is("a text with a fault", Due.tell(x, "r2;p1;m1;"), -109);
        DUE.row("kept: many", new long[] {4, 5, 2, 0, 2}, k -> x.many((int) k));
        DUE.row("kept: number", new long[] {2, 3, 1, 1}, k -> x.ofPlace((int) k, 1));
        DUE.row("kept: kind", new long[] {0, 1, 2, 0}, k -> x.ofPlace((int) k, 0));
        DUE.is("kept: firsts", x.firsts(0), 0);
        DUE.is("kept: one back", x.back(1), 1);
        DUE.is("kept: firsts by one", x.firsts(0), 4);
    }

    private static void ofPlace() {
        DifferRings x = Due.ringOf("r6;p0;f1;m2;p3;f5");
        DUE.row("kind", new long[] {0, 1, 2, 0, 1, -1}, k -> x.ofPlace((int) k, 0));
        DUE.row("number", new long[] {0, 1, 2, 3, 5, -1}, k -> x.ofPlace((int) k, 1));
        DUE.row("next", new long[] {1, 2, 4, 2, 4, -1}, k -> x.ofPlace((int) k, 2));
        DUE.is("what 3", x.ofPlace(0, 3), -2);
        DUE.is("what -1", x.ofPlace(4, -1), -2);
        DUE.is("place -1", x.ofPlace(-1, 0), -1);
        DUE.is("place ahead of what", x.ofPlace(5, 3), -1);
        DifferRings two = Due.ringOf("r6;f5;m3");
        DUE.is("far of two", two.ofPlace(0, 2), 0);
        DUE.is("mixed of two", two.ofPlace(1, 2), 2);
        DifferRings three = Due.ringOf("r4;m0;m3;m3");
        DUE.row("mixed left over", new long[] {2, 3, 3}, k -> three.ofPlace((int) k, 2));
    }

    private static void write() {
        DifferRings x = Due.ringOf("r5;p4;f1;m3;p0");
        DUE.is("write(0, 0)", x.write(0, 0), 4);
        DUE.is("write(0, 4)", x.write(0, 4), 0);
        DUE.is("write(2, 2)", x.write(2, 2), 3);
        DUE.row("written", new long[] {4, 1, 2, 0}, k -> x.ofPlace((int) k, 1));
        DUE.is("next of the written", x.ofPlace(1, 2), 1);
        DUE.is("place 4", x.write(4, 9), -1);
        DUE.is("place -1", x.write(-1, 0), -1);
        DUE.is("number 5", x.write(0, 5), -2);
        DUE.is("number -1", x.write(3, -1), -2);
        DUE.row("kept", new long[] {4, 1, 2, 0}, k -> x.ofPlace((int) k, 1));
        DUE.row("kinds kept", new long[] {0, 1, 2, 0}, k -> x.ofPlace((int) k, 0));
        DUE.is("no step was done", x.many(2), 0);
    }
}
