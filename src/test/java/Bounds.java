import java.util.function.LongUnaryOperator;

/** Tests that bear the document's own words as their names: each would fail if what these words say were broken. */
final class Bounds {
    /** Makes an object, each time the same way. */
    interface Maker {
        DifferRings make();
    }

    interface Ask {
        long of(DifferRings x);
    }

    static final int UNKNOWN = -1, OUTSIDE = -2, STATE = -3, FULL = -4, NONE = -9;
    static final int NULL = 1, CAST = 2, INDEX = 3, SIZE = 4;
    static final long LOST = Long.MIN_VALUE;
    static final int LEAST = Integer.MIN_VALUE, MOST = Integer.MAX_VALUE;

    private final Doc doc;
    private final Due due;
    private String section = "";
    private String words = "";

    Bounds(Doc doc, Due due) {
        this.doc = doc;
        this.due = due;
    }

    void section(String name) {
        section = name;
    }

    void says(String sentence, Runnable test) {
        words = sentence;
        due.holds(section + " says '" + sentence + "'", doc.name(section, sentence));
        int before = due.asked();
        test.run();
        due.holds(section + " '" + sentence + "' is tested", due.asked() > before);
    }

    private String named(String call) {
        return section + " '" + words + "': " + call;
    }

    void is(String call, long got, long want) {
        due.is(named(call), got, want);
    }

    void holds(String what, boolean so) {
        due.holds(named(what), so);
    }

    /** A call of least, of the next one and so on, each with an answer of its own. */
    void row(String call, int least, long[] want, LongUnaryOperator got) {
        for (int k = 0; k < want.length; k++) {
            is(call + " " + (least + k), got.applyAsLong(least + k), want[k]);
        }
    }

    /** A refusal of a call that names no FAULTS: nothing is changed, not what fault() tells either. */
    void refused(Maker maker, String call, long want, Ask ask) {
        changesNothing(maker, call, want, ask, SIZE, SIZE);
    }

    /** A refusal of a call that names FAULTS: nothing is changed but fault(), which is 0 then. */
    void refusedFaultless(Maker maker, String call, long want, Ask ask) {
        changesNothing(maker, call, want, ask, SIZE, 0);
    }

    void faulted(Maker maker, String call, int fault, Ask ask) {
        changesNothing(maker, call, -10 - fault, ask, otherThan(fault), fault);
    }

    /** As faulted, for a call that answers a long. */
    void lost(Maker maker, String call, int fault, Ask ask) {
        changesNothing(maker, call, LOST, ask, otherThan(fault), fault);
    }

    /** A call that names FAULTS and comes to none: fault() is 0 then. */
    void taken(Maker maker, String call, long want, Ask ask) {
        DifferRings x = maker.make();
        bringAbout(x, SIZE);
        is(call, ask.of(x), want);
        is(call + ", then fault()", x.fault(), 0);
    }

    /** Of two objects that were made the same way, the one that was asked is as the other one that was not. */
    private void changesNothing(Maker maker, String call, long want, Ask ask, int faultAhead, int faultThen) {
        DifferRings x = maker.make();
        bringAbout(x, faultAhead);
        is(call, ask.of(x), want);
        is(call + ", then fault()", x.fault(), faultThen);
        holds(call + " changes nothing", State.of(x).equals(State.of(maker.make())));
    }

    private static int otherThan(int fault) {
        return fault == SIZE ? INDEX : SIZE;
    }

    /** SIZE or INDEX, by calls that change nothing else; on SHEET 0, which has a row where it is INDEX. */
    private static void bringAbout(DifferRings x, int fault) {
        if (fault == SIZE) {
            x.sheet(0, 0, -1);
        } else {
            x.put(0, -1, 0);
        }
        if (x.fault() != fault) {
            throw new IllegalStateException("fault() is not " + fault + " to begin with");
        }
    }

    /** The one below, the one above, and the ends of all ints. */
    static int[] beyond(int least, int most) {
        return new int[] {least - 1, most + 1, LEAST, MOST};
    }

    /** A RING by which STEPS were done, a NUMBER written, READINGS taken, bodies traced; SHEET 2 has nothing. */
    static DifferRings full() {
        DifferRings x = Due.ringOf("r5;p4;f1;m3;p0");
        x.steps(2);
        x.write(1, 4);
        x.reading(0, 0, 2);
        x.reading(1, 1, 3);
        x.tell(2);
        x.call(1);
        Due.fill(x, 0, 0, 3, 0, 1, 2, 9, 100, 9);
        Due.fill(x, 1, 1, 1, 9, 4, 3, 300, 0);
        return x;
    }

    /** As full(), with as many READINGS as there may be. */
    static DifferRings fullOfReadings() {
        DifferRings x = full();
        for (int k = 2; k < 8; k++) {
            x.reading(k, k % 4, k % 6);
        }
        return x;
    }

    /** No RING, but SHEETS: 0 has bytes, 1 has ints. */
    static DifferRings withoutRing() {
        DifferRings x = new DifferRings();
        Due.fill(x, 0, 0, 1, 2, 3, 4, 5);
        Due.fill(x, 1, 2, 6, 7, 100000);
        return x;
    }
}
