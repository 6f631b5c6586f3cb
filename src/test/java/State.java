import java.util.ArrayList;
import java.util.List;

/** All that can be asked of an object but fault(), which the asking changes; READINGS are taken back by it. */
final class State {
    private static final int MOST_CELLS = 60;

    private final DifferRings x;
    private final List<Long> answers = new ArrayList<>();

    private State(DifferRings x) {
        this.x = x;
    }

    static List<Long> of(DifferRings x) {
        State state = new State(x);
        state.ring();
        state.rows();
        for (int k = 0; k < 4; k++) {
            state.sheet(k);
        }
        state.readings();
        return state.answers;
    }

    private void ring() {
        answers.add((long) x.trace());
        for (int what = 0; what < 5; what++) {
            answers.add((long) x.many(what));
        }
        for (int p = 0; p < 5; p++) {
            for (int what = 0; what < 3; what++) {
                answers.add((long) x.ofPlace(p, what));
            }
            answers.add((long) x.after(p, 3));
        }
    }

    private void rows() {
        for (int k = -1; k < 5; k++) {
            answers.add((long) x.now(k));
            answers.add((long) x.from(k));
            answers.add((long) x.rows(k));
            answers.add((long) x.longest(k));
            answers.add((long) x.few(k));
        }
        answers.add(x.odds(0, 2, 0, 0));
        answers.add(x.odds(1, 1, 0, 1));
    }

    private void sheet(int k) {
        for (int lane = 0; lane < 3; lane++) {
            answers.add(x.cell(k, 0, lane));
            answers.add((long) x.fault());
            for (int i = 1; i <= MOST_CELLS && x.fault() != 1 && x.fault() != 2; i++) {
                answers.add(x.cell(k, i, lane));
                if (x.fault() == 3) {
                    break;
                }
            }
        }
    }

    private void readings() {
        for (int k = 0; k < 9; k++) {
            for (int p = 0; p < 5; p++) {
                answers.add((long) x.kinds(p));
                answers.add((long) x.firsts(p));
            }
            answers.add((long) x.back(1));
        }
    }
}
