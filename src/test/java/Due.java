import java.util.function.LongSupplier;
import java.util.function.LongUnaryOperator;
import java.util.function.Supplier;

/** Counts the answers of a test that are not the ones that are due. */
final class Due {
    private static final int MOST_TOLD = 100;
    private final String name;
    private int asked = 0;
    private int wrong = 0;

    Due(String name) {
        this.name = name;
    }

    void is(String call, long got, long want) {
        is(() -> call, got, want);
    }

    /** As the other one, for calls so many that their names are made only where they are wrong. */
    void is(Supplier<String> call, long got, long want) {
        asked++;
        if (got != want) {
            wrong++;
        }
        if (got != want && wrong <= MOST_TOLD) {
            System.out.println(name + ": " + call.get() + " answered " + got + ", due is " + want);
        }
    }

    /** A call of 0, of 1 and so on, each with an answer of its own. */
    void row(String call, long[] want, LongUnaryOperator got) {
        for (int k = 0; k < want.length; k++) {
            is(call + " " + k, got.applyAsLong(k), want[k]);
        }
    }

    /** A call, and the FAULT that is told behind it, where another one was told ahead of it. */
    void faults(DifferRings x, String call, LongSupplier got, long want, int fault) {
        x.sheet(fault == 4 ? 9 : 0, 0, -1);
        is(call, got.getAsLong(), want);
        is(call + ", then fault()", x.fault(), fault);
    }

    int asked() {
        return asked;
    }

    void holds(String what, boolean so) {
        is(what, so ? 1 : 0, 1);
    }

    void end() {
        System.out.println(name + ": " + asked + " answers, " + wrong + " wrong");
        if (wrong != 0 || asked == 0) {
            System.exit(1);
        }
    }

    /** Puts codes or numbers on a new row of a SHEET. */
    static void fill(DifferRings x, int sheet, int lane, int... cells) {
        x.sheet(sheet, lane, cells.length);
        for (int i = 0; i < cells.length; i++) {
            x.put(sheet, i, cells[i]);
        }
    }

    static int[] codes(String text) {
        return text.chars().toArray();
    }

    /** A RING by a TEXT on SHEET 3, that is told as bytes. */
    static int tell(DifferRings x, String text) {
        fill(x, 3, 0, codes(text));
        return x.ring(3, 0, 0, text.length());
    }

    static DifferRings ringOf(String text) {
        DifferRings x = new DifferRings();
        if (tell(x, text) < 2) {
            throw new IllegalStateException("the test's own text is wrong: " + text);
        }
        return x;
    }
}
