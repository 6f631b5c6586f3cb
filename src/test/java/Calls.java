/** All calls by their number, of the class and of the model, with as many of the values as each one takes. */
final class Calls {
    static final String[] NAMES = {
        "ring", "ofPlace", "write", "steps", "after", "day", "now", "from", "rows", "longest", "meet", "few", "reading",
        "back", "kinds", "firsts", "odds", "sheet", "lose", "put", "cell", "copy", "tell", "call", "as", "trace",
        "fault", "many"};

    private Calls() {
    }

    static int numberOf(String name) {
        return java.util.Arrays.asList(NAMES).indexOf(name);
    }

    static long ofClass(DifferRings x, int which, long... v) {
        switch (which) {
            case 0: return x.ring((int) v[0], (int) v[1], (int) v[2], (int) v[3]);
            case 1: return x.ofPlace((int) v[0], (int) v[1]);
            case 2: return x.write((int) v[0], (int) v[1]);
            case 3: return x.steps((int) v[0]);
            case 4: return x.after((int) v[0], v[1]);
            case 5: return x.day((int) v[0], (int) v[1], (int) v[2], (int) v[3], (int) v[4]);
            case 6: return x.now((int) v[0]);
            case 7: return x.from((int) v[0]);
            case 8: return x.rows((int) v[0]);
            case 9: return x.longest((int) v[0]);
            case 10: return x.meet((int) v[0], (int) v[1], (int) v[2]);
            case 11: return x.few((int) v[0]);
            case 12: return x.reading((int) v[0], (int) v[1], (int) v[2]);
            case 13: return x.back((int) v[0]);
            case 14: return x.kinds((int) v[0]);
            case 15: return x.firsts((int) v[0]);
            case 16: return x.odds((int) v[0], (int) v[1], (int) v[2], (int) v[3]);
            case 17: return x.sheet((int) v[0], (int) v[1], (int) v[2]);
            case 18: return x.lose((int) v[0]);
            case 19: return x.put((int) v[0], (int) v[1], (int) v[2]);
            case 20: return x.cell((int) v[0], (int) v[1], (int) v[2]);
            case 21: return x.copy((int) v[0], (int) v[1], (int) v[2], (int) v[3], (int) v[4]);
            case 22: return x.tell((int) v[0]);
            case 23: return x.call((int) v[0]);
            case 24: return x.as((int) v[0], (int) v[1]);
            case 25: return x.trace();
            case 26: return x.fault();
            default: return x.many((int) v[0]);
        }
    }

    static long ofModel(Model m, int which, long... v) {
        switch (which) {
            case 0: return m.ring((int) v[0], (int) v[1], (int) v[2], (int) v[3]);
            case 1: return m.ofPlace((int) v[0], (int) v[1]);
            case 2: return m.write((int) v[0], (int) v[1]);
            case 3: return m.steps((int) v[0]);
            case 4: return m.after((int) v[0], v[1]);
            case 5: return m.day((int) v[0], (int) v[1], (int) v[2], (int) v[3], (int) v[4]);
            case 6: return m.now((int) v[0]);
            case 7: return m.from((int) v[0]);
            case 8: return m.rows((int) v[0]);
            case 9: return m.longest((int) v[0]);
            case 10: return m.meet((int) v[0], (int) v[1], (int) v[2]);
            case 11: return m.few((int) v[0]);
            case 12: return m.reading((int) v[0], (int) v[1], (int) v[2]);
            case 13: return m.back((int) v[0]);
            case 14: return m.kinds((int) v[0]);
            case 15: return m.firsts((int) v[0]);
            case 16: return m.odds((int) v[0], (int) v[1], (int) v[2], (int) v[3]);
            case 17: return m.sheet((int) v[0], (int) v[1], (int) v[2]);
            case 18: return m.lose((int) v[0]);
            case 19: return m.put((int) v[0], (int) v[1], (int) v[2]);
            case 20: return m.cell((int) v[0], (int) v[1], (int) v[2]);
            case 21: return m.copy((int) v[0], (int) v[1], (int) v[2], (int) v[3], (int) v[4]);
            case 22: return m.tell((int) v[0]);
            case 23: return m.call((int) v[0]);
            case 24: return m.as((int) v[0], (int) v[1]);
            case 25: return m.trace();
            case 26: return m.fault();
            default: return m.many((int) v[0]);
        }
    }
}
