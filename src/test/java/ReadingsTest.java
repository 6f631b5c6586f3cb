/** Promises 14 to 18: reading, back, kinds, firsts, odds. */
public final class ReadingsTest {
    private static final Due DUE = new Due("ReadingsTest");

    public static void main(String[] args) {
        reading();
        back();
        kinds();
        firsts();
        fromNow();
        odds();
        oddsOfManyRows();
        DUE.end();
    }

    private static void reading() {
        DifferRings x = Due.ringOf("r5;p4;f1;m3;p0");
        DUE.is("place 4", x.reading(100, 4, 6), -1);
        DUE.is("place -1", x.reading(0, -1, 0), -1);
        DUE.is("t 100", x.reading(100, 0, 0), -2);
        DUE.is("t -1", x.reading(-1, 0, 0), -2);
        DUE.is("v 6", x.reading(0, 0, 6), -2);
        DUE.is("v -1", x.reading(0, 0, -1), -2);
        DUE.is("none is kept", x.many(4), 0);
        for (int k = 0; k < 8; k++) {
            DUE.is("reading " + k, x.reading(k == 0 ? 99 : 0, k % 4, k == 1 ? 5 : 0), k);
            DUE.is("readings", x.many(4), k + 1);
        }
        DUE.is("full", x.reading(0, 0, 0), -4);
        DUE.is("unknown ahead of full", x.reading(0, 4, 0), -1);
        DUE.is("outside ahead of full", x.reading(100, 0, 0), -2);
        DUE.is("readings", x.many(4), 8);
        DifferRings y = Due.ringOf("r5;p4;f1;m3;p0");
        long[] numbers = {4, 3, 2, 1, 1, 0, 1, 1};
        for (int t = 0; t < 8; t++) {
            y.reading(t, 0, (int) numbers[t]);
        }
        DUE.row("all eight are so", new long[] {1, 2, 7, 1}, k -> y.kinds((int) k));
        DUE.row("by all eight", new long[] {16, 2, 31, 5}, k -> y.firsts((int) k));
        y.back(1);
        y.reading(7, 0, 0);
        DUE.row("the eighth is not", new long[] {0, 0, 0, 0}, k -> y.kinds((int) k));
    }

    private static void back() {
        DifferRings x = Due.ringOf("r5;p4;f1;m3;p0");
        DUE.is("none back of none", x.back(0), 0);
        DUE.is("one back of none", x.back(1), -2);
        for (int v = 0; v < 5; v++) {
            x.reading(0, 0, 4 - v);
        }
        DUE.is("against one another", x.firsts(0), 0);
        DUE.is("back(6)", x.back(6), -2);
        DUE.is("back(-1)", x.back(-1), -2);
        DUE.is("back(0)", x.back(0), 5);
        DUE.is("back(3)", x.back(3), 2);
        DUE.is("still against one another", x.firsts(0), 0);
        DUE.is("back(1)", x.back(1), 1);
        DUE.is("the first is left", x.firsts(0), 16);
        DUE.is("the next is numbered anew", x.reading(0, 1, 1), 1);
        DUE.is("back(2)", x.back(2), 0);
        DUE.is("none is left", x.firsts(0), 31);
    }

    private static void kinds() {
        DifferRings x = Due.ringOf("r5;p4;f1;m3;p0");
        DUE.row("no readings", new long[] {7, 7, 7, 7, -1}, k -> x.kinds((int) k));
        DUE.is("place -1", x.kinds(-1), -1);
        // PLACE 2, 3: to the next 3, to the one behind 1, together 4.
        x.reading(1, 2, 3);
        DUE.row("as plain", new long[] {0, 0, 1, 0}, k -> x.kinds((int) k));
        x.back(1);
        x.reading(1, 2, 1);
        DUE.row("as far", new long[] {0, 0, 2, 0}, k -> x.kinds((int) k));
        x.back(1);
        x.reading(1, 2, 4);
        DUE.row("as mixed", new long[] {7, 7, 4, 7}, k -> x.kinds((int) k));
        x.reading(0, 0, 3);
        DUE.row("not so now", new long[] {0, 0, 0, 0}, k -> x.kinds((int) k));
        x.back(2);
        x.reading(99, 1, 5);
        DUE.row("no number of base 5", new long[] {0, 0, 0, 0}, k -> x.kinds((int) k));
        DUE.row("kinds are kept", new long[] {0, 1, 2, 0}, k -> x.ofPlace((int) k, 0));
        DifferRings two = Due.ringOf("r6;p5;p3");
        two.reading(1, 0, 2);
        DUE.row("of two", new long[] {5, 7}, k -> two.kinds((int) k));
        two.back(1);
        two.reading(1, 0, 0);
        DUE.row("of two, 0", new long[] {2, 0}, k -> two.kinds((int) k));
    }

    private static void firsts() {
        DifferRings x = Due.ringOf("r5;p4;f1;m3;p0");
        DUE.row("no readings", new long[] {31, 31, 31, 31, -1}, k -> x.firsts((int) k));
        DUE.is("place -1", x.firsts(-1), -1);
        // PLACE 1 becomes how far it is from PLACE 3: 1 now.
        x.reading(1, 1, 1);
        DUE.row("by place 1", new long[] {31, 2, 31, 5}, k -> x.firsts((int) k));
        // PLACE 0 becomes how far it is from PLACE 1: 3 now.
        x.reading(1, 0, 3);
        DUE.row("by both", new long[] {16, 2, 31, 5}, k -> x.firsts((int) k));
        x.reading(0, 2, 3);
        DUE.row("as it stands", new long[] {16, 2, 8, 5}, k -> x.firsts((int) k));
        DUE.row("numbers are kept", new long[] {4, 1, 3, 0}, k -> x.ofPlace((int) k, 1));
        DifferRings least = Due.ringOf("r2;p0;p1");
        DUE.is("of base 2", least.firsts(0), 3);
        least.reading(99, 0, 0);
        DUE.is("all go out", least.firsts(0), 3);
        least.reading(0, 1, 2);
        DUE.is("no number of base 2", least.firsts(1), 0);
    }

    /** READINGS are of how all is now, whenever they were taken. */
    private static void fromNow() {
        DifferRings x = Due.ringOf("r5;p4;f1;m3;p0");
        x.reading(0, 0, 4);
        DUE.is("so", x.kinds(1), 7);
        x.steps(1);
        DUE.is("not so behind a step", x.kinds(1), 0);
        DUE.is("readings", x.many(4), 1);
        DUE.is("first of it", x.firsts(0), 16);
        x.write(0, 4);
        DUE.is("so as it is written", x.kinds(1), 7);
    }

    private static void odds() {
        long lost = DifferRings.LOST;
        DifferRings x = Due.ringOf("r5;p4;f1;m3;p0");
        long[][] upper = {{1, 1}, {1, 6}, {33, 28}, {9, 16}};
        long[][] lower = {{5, 5}, {5, 25}, {125, 125}, {25, 125}};
        int[] times = {0, 1, 2, 5};
        for (int back = 0; back < 2; back++) {
            for (int at = 0; at < 4; at++) {
                int t = times[back == 0 ? at : 3 - at];
                int row = back == 0 ? at : 3 - at;
                for (int v = 0; v < 2; v++) {
                    DUE.is("upper of 0 " + t + " " + 2 * v, x.odds(0, t, 2 * v, 0), upper[row][v]);
                    DUE.is("lower of 0 " + t + " " + 2 * v, x.odds(0, t, 2 * v, 1), lower[row][v]);
                }
            }
        }
        DUE.is("in least terms at once: upper", x.odds(2, 2, 0, 0), 121);
        DUE.is("in least terms at once: lower", x.odds(2, 2, 0, 1), 625);
        DUE.is("never: upper", x.odds(3, 99, 5, 0), 0);
        DUE.is("never: lower", x.odds(3, 99, 5, 1), 1);
        DUE.is("place 4", x.odds(4, 0, 0, 0), lost);
        DUE.is("place -1", x.odds(-1, 0, 0, 0), lost);
        DUE.is("t 100", x.odds(0, 100, 0, 0), lost);
        DUE.is("t -1", x.odds(0, -1, 0, 0), lost);
        DUE.is("v 6", x.odds(0, 0, 6, 0), lost);
        DUE.is("v -1", x.odds(0, 0, -1, 0), lost);
        DUE.is("which 2", x.odds(0, 0, 0, 2), lost);
        DUE.is("which -1", x.odds(0, 0, 0, -1), lost);
        x.steps(3);
        x.reading(0, 0, 0);
        DUE.is("of all rows, whatever is now", x.odds(0, 2, 0, 0), 33);
        DifferRings out = Due.ringOf("r4;p3;p0;p1;p2");
        DUE.is("always: upper", out.odds(2, 99, 0, 0), 1);
        DUE.is("always: lower", out.odds(2, 99, 0, 1), 1);
    }

    /** Of the most ROWS there are: what a STEP makes of NUMBERS is told by hand. */
    private static void oddsOfManyRows() {
        DifferRings x = Due.ringOf("r6;p5;m4;m3;f2;m1");
        // Of 36 pairs 6 are alike, 10 differ by 1, 8 by 2, 6 by 3, 4 by 4, 2 by 5.
        long[] pairs = {6, 10, 8, 6, 4, 2};
        for (int v = 0; v < 6; v++) {
            DUE.is("share of " + v, x.odds(0, 1, v, 0) * 36, pairs[v] * x.odds(0, 1, v, 1));
            DUE.is("far share of " + v, x.odds(3, 1, v, 0) * 36, pairs[v] * x.odds(3, 1, v, 1));
            DUE.is("share of " + v + " now", x.odds(4, 0, v, 1), 6);
        }
        Model model = new Model();
        model.sheet(0, 0, 17);
        int[] codes = Due.codes("r6;p5;m4;m3;f2;m1");
        for (int i = 0; i < codes.length; i++) {
            model.put(0, i, codes[i]);
        }
        model.ring(0, 0, 0, 17);
        for (int t : new int[] {2, 3, 4, 9, 30, 99, 6}) {
            DUE.is("upper behind " + t, x.odds(t % 5, t, t % 6, 0), model.odds(t % 5, t, t % 6, 0));
            DUE.is("lower behind " + t, x.odds(t % 5, t, t % 6, 1), model.odds(t % 5, t, t % 6, 1));
        }
    }
}
