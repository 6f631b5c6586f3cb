import java.util.Arrays;

/**
 * Rings of differences, as ../shared/DOC.md tells them.
 *
 * A refusal is looked for ahead of every change, so a call that is refused leaves all as it was.
 */
public final class DifferRings {
    public static final int UNKNOWN = -1, OUTSIDE = -2, STATE = -3, FULL = -4, NONE = -9;
    public static final long LOST = Long.MIN_VALUE;

    private static final int NO_FAULT = 0, NULL = 1, CAST = 2, INDEX = 3, SIZE = 4;
    private static final int PLAIN = 0, FAR = 1, MIXED = 2;
    private static final int LEAST_BASE = 2, MOST_BASE = 6;
    private static final int FEWEST_PLACES = 2, MOST_PLACES = 5;
    private static final int SHEETS = 4, LANES = 3, MOST_CELLS = 60;
    private static final int MOST_READINGS = 8, MOST_STEPS = 99, MOST_ACTS = 20;
    private static final int STEPS_ACT = 9;
    private static final int DAY_PLACE = 10;
    private static final long MOST_AFTER = 1000000000000000000L;

    private final Sheet[] sheets;
    private final Ring live;
    private final Ring trial;
    private final AllRows all;
    private final Spread spread;
    private final Readings readings;
    private final Day played;
    private int done;
    private int traced;
    private int faulted;

    public DifferRings() {
        sheets = new Sheet[SHEETS];
        for (int k = 0; k < sheets.length; k++) {
            sheets[k] = new Sheet();
        }
        live = new Ring();
        trial = new Ring();
        all = new AllRows();
        spread = new Spread();
        readings = new Readings();
        played = new Day();
    }

    // ---- 1 the ring

    public int ring(int sheet, int lane, int i, int n) {
        faulted = NO_FAULT;
        if (!isSheet(sheet)) {
            return UNKNOWN;
        }
        if (!isLane(lane)) {
            return OUTSIDE;
        }
        Sheet from = sheets[sheet];
        faulted = from.faultAs(lane, i, n);
        if (faulted != NO_FAULT) {
            return answerOfFault();
        }
        int wrong = Text.firstFault(from, i, n);
        if (wrong != NONE) {
            return -100 - wrong;
        }
        Text.take(from, i, n, live);
        done = 0;
        readings.count = 0;
        all.forget();
        spread.forget();
        return live.size;
    }

    public int ofPlace(int p, int what) {
        if (!live.has(p)) {
            return UNKNOWN;
        }
        switch (what) {
            case 0: return live.kind[p];
            case 1: return live.number[p];
            case 2: return live.stepped(p);
            default: return OUTSIDE;
        }
    }

    public int write(int p, int v) {
        if (!live.has(p)) {
            return UNKNOWN;
        }
        if (!live.isNumber(v)) {
            return OUTSIDE;
        }
        int was = live.number[p];
        live.number[p] = v;
        return was;
    }

    // ---- 2 steps

    public int steps(int n) {
        if (n < 1 || n > MOST_STEPS) {
            return OUTSIDE;
        }
        if (live.isNone()) {
            return STATE;
        }
        live.go(n);
        done += n;
        return live.zeros();
    }

    public int after(int p, long t) {
        if (!live.has(p)) {
            return UNKNOWN;
        }
        if (t < 0 || t > MOST_AFTER) {
            return OUTSIDE;
        }
        all.workOut(live);
        return all.numberIn(all.behind(live.code(), t), p);
    }

    public int day(int sheet, int lane, int i, int n, int what) {
        faulted = NO_FAULT;
        if (!isSheet(sheet)) {
            return UNKNOWN;
        }
        if (!isLane(lane) || n < 0 || n > MOST_ACTS || !isOfDay(what)) {
            return OUTSIDE;
        }
        if (live.isNone()) {
            return STATE;
        }
        Sheet from = sheets[sheet];
        faulted = from.faultAs(lane, i, 2 * n);
        if (faulted != NO_FAULT) {
            return answerOfFault();
        }
        if (!Day.areActs(from, i, n)) {
            return OUTSIDE;
        }
        trial.takeAll(live);
        played.play(trial, from, i, n);
        return ofDay(what);
    }

    private int ofDay(int what) {
        if (what == 1) {
            return played.firstWrong;
        }
        if (played.firstWrong != NONE) {
            return -100 - played.firstWrong;
        }
        switch (what) {
            case 0: return trial.total();
            case 2: return played.stepsIn;
            case 3: return played.outs;
            case 4:
                all.workOut(live);
                return all.tailOf(trial.code());
            default:
                return trial.numberAt(what - DAY_PLACE);
        }
    }

    // ---- 3 all rows

    public int now(int what) {
        if (what < 0 || what > 2) {
            return OUTSIDE;
        }
        if (live.isNone()) {
            return STATE;
        }
        all.workOut(live);
        int code = live.code();
        switch (what) {
            case 0: return all.tailOf(code);
            case 1: return all.roundOf(code);
            default: return all.goesOut(code) ? 1 : 0;
        }
    }

    public int from(int k) {
        if (k < -1 || k >= MOST_PLACES) {
            return OUTSIDE;
        }
        if (live.isNone()) {
            return STATE;
        }
        all.workOut(live);
        if (k < 0) {
            return all.comersOf(live.code());
        }
        int first = all.firstComerOf(live.code());
        return first == NONE || !live.has(k) ? NONE : all.numberIn(first, k);
    }

    public int rows(int what) {
        if (what < 0 || what > 4) {
            return OUTSIDE;
        }
        if (live.isNone()) {
            return STATE;
        }
        all.workOut(live);
        switch (what) {
            case 0: return all.count;
            case 1: return all.staying;
            case 2: return all.barren;
            case 3: return all.goingOut;
            default: return all.rounds;
        }
    }

    public int longest(int k) {
        if (k < -1 || k >= MOST_PLACES) {
            return OUTSIDE;
        }
        if (live.isNone()) {
            return STATE;
        }
        all.workOut(live);
        if (k < 0) {
            return all.longestTail;
        }
        return live.has(k) ? all.numberIn(all.firstOfLongest, k) : NONE;
    }

    public int meet(int sheet, int lane, int i) {
        faulted = NO_FAULT;
        if (live.isNone()) {
            return STATE;
        }
        if (!isSheet(sheet)) {
            return UNKNOWN;
        }
        if (!isLane(lane)) {
            return OUTSIDE;
        }
        Sheet from = sheets[sheet];
        faulted = from.faultAs(lane, i, live.size);
        if (faulted != NO_FAULT) {
            return answerOfFault();
        }
        trial.takeAll(live);
        if (!trial.takeRow(from, i)) {
            return OUTSIDE;
        }
        all.workOut(live);
        return all.meeting(live.code(), trial.code());
    }

    public int few(int what) {
        if (what < 0 || what > 1) {
            return OUTSIDE;
        }
        if (live.isNone()) {
            return STATE;
        }
        all.workOut(live);
        int least = all.leastSetToGoOut(live.code());
        return what == 0 ? Integer.bitCount(least) : least;
    }

    // ---- 4 what stood where

    public int reading(int t, int p, int v) {
        if (!live.has(p)) {
            return UNKNOWN;
        }
        if (!isReadable(t, v)) {
            return OUTSIDE;
        }
        return readings.keep(t, p, v);
    }

    public int back(int k) {
        if (k < 0 || k > readings.count) {
            return OUTSIDE;
        }
        readings.count -= k;
        return readings.count;
    }

    public int kinds(int p) {
        if (!live.has(p)) {
            return UNKNOWN;
        }
        int set = 0;
        for (int kind = PLAIN; kind <= MIXED; kind++) {
            trial.takeAll(live);
            trial.kind[p] = kind;
            if (readings.areSo(trial)) {
                set |= 1 << kind;
            }
        }
        return set;
    }

    public int firsts(int p) {
        if (!live.has(p)) {
            return UNKNOWN;
        }
        int set = 0;
        for (int v = 0; v < live.base; v++) {
            trial.takeAll(live);
            trial.number[p] = v;
            if (readings.areSo(trial)) {
                set |= 1 << v;
            }
        }
        return set;
    }

    public long odds(int p, int t, int v, int which) {
        if (!live.has(p) || !isReadable(t, v) || which < 0 || which > 1) {
            return LOST;
        }
        all.workOut(live);
        spread.goTo(all, t);
        int upper = spread.howMany(all, p, v);
        int common = commonDivisor(upper, all.count);
        if (common < 1) {
            return LOST;
        }
        return (which == 0 ? upper : all.count) / common;
    }

    // ---- 5 sheets, parts

    public int sheet(int k, int lane, int n) {
        faulted = NO_FAULT;
        if (!isSheet(k)) {
            return UNKNOWN;
        }
        if (!isLane(lane) || n > MOST_CELLS) {
            return OUTSIDE;
        }
        if (n < 0) {
            faulted = SIZE;
            return answerOfFault();
        }
        sheets[k].renew(lane, n);
        return 1;
    }

    public int lose(int k) {
        if (!isSheet(k)) {
            return UNKNOWN;
        }
        int had = sheets[k].hasNothing() ? 0 : 1;
        sheets[k].drop();
        return had;
    }

    public int put(int k, int i, int v) {
        faulted = NO_FAULT;
        if (!isSheet(k)) {
            return UNKNOWN;
        }
        faulted = sheets[k].faultOf(i, 1);
        if (faulted != NO_FAULT) {
            return answerOfFault();
        }
        sheets[k].change(i, v);
        return 1;
    }

    public long cell(int k, int i, int lane) {
        faulted = NO_FAULT;
        if (!isSheet(k) || !isLane(lane)) {
            return LOST;
        }
        faulted = sheets[k].faultAs(lane, i, 1);
        return faulted != NO_FAULT ? LOST : sheets[k].at(i);
    }

    public int copy(int k, int i, int other, int j, int n) {
        faulted = NO_FAULT;
        if (!isSheet(k) || !isSheet(other)) {
            return UNKNOWN;
        }
        Sheet source = sheets[k];
        Sheet target = sheets[other];
        faulted = source.faultOfCopy(i, target, j, n);
        if (faulted != NO_FAULT) {
            return answerOfFault();
        }
        System.arraycopy(source.cells, i, target.cells, j, n);
        return n;
    }

    public int tell(int p) {
        if (!live.has(p)) {
            return UNKNOWN;
        }
        switch (live.kind[p]) {
            case PLAIN: return tellPlain(p);
            case FAR: return tellFar(p);
            default: return tellMixed(p);
        }
    }

    private int tellPlain(int p) {
        leave(1);
        return live.number[p];
    }

    private int tellFar(int p) {
        leave(2);
        return tellPlain(p) + 100;
    }

    private int tellMixed(int p) {
        leave(3);
        int far = tellFar(p);
        return far + tellPlain(p);
    }

    public int call(int p) {
        if (!live.has(p)) {
            return UNKNOWN;
        }
        if (live.kind[p] == MIXED) {
            leave(5);
            return 60;
        }
        leave(4);
        return p;
    }

    public int as(int p, int kind) {
        faulted = NO_FAULT;
        if (!live.has(p)) {
            return UNKNOWN;
        }
        if (kind < PLAIN || kind > MIXED) {
            return OUTSIDE;
        }
        // Each kind is one of every kind with a lesser number.
        if (live.kind[p] < kind) {
            faulted = CAST;
            return answerOfFault();
        }
        return 1;
    }

    public int trace() {
        return traced;
    }

    public int fault() {
        return faulted;
    }

    public int many(int what) {
        switch (what) {
            case 0: return live.size;
            case 1: return live.base;
            case 2: return done;
            case 3: return live.zeros();
            case 4: return readings.count;
            default: return OUTSIDE;
        }
    }

    // ---- what several calls need

    private void leave(int body) {
        traced = 31 * traced + body;
    }

    private int answerOfFault() {
        return -10 - faulted;
    }

    private static boolean isSheet(int k) {
        return k >= 0 && k < SHEETS;
    }

    private static boolean isLane(int lane) {
        return lane >= 0 && lane < LANES;
    }

    private static boolean isOfDay(int what) {
        return what >= 0 && what <= 4 || what >= DAY_PLACE && what < DAY_PLACE + MOST_PLACES;
    }

    private static boolean isReadable(int t, int v) {
        return t >= 0 && t <= MOST_STEPS && v >= 0 && v < MOST_BASE;
    }

    private static int commonDivisor(int a, int b) {
        int greater = a;
        int lesser = b;
        // Euclid needs some 20 rounds for the greatest count there is, 7776.
        for (int round = 0; round < 100 && lesser != 0; round++) {
            int rest = greater % lesser;
            greater = lesser;
            lesser = rest;
        }
        return greater;
    }

    /** Nothing, or a row of a LANE; its cells are kept as ints that are cut already. */
    private static final class Sheet {
        private static final int NOTHING = -1;
        private static final int BYTES = 0, SHORTS = 1;

        private int lane = NOTHING;
        private int size = 0;
        final int[] cells = new int[MOST_CELLS];

        boolean hasNothing() {
            return lane == NOTHING;
        }

        void renew(int newLane, int n) {
            lane = newLane;
            size = n;
            Arrays.fill(cells, 0);
        }

        void drop() {
            lane = NOTHING;
            size = 0;
        }

        int faultAs(int asLane, int i, int n) {
            return !hasNothing() && lane != asLane ? CAST : faultOf(i, n);
        }

        int faultOf(int i, int n) {
            if (hasNothing()) {
                return NULL;
            }
            if (n < 0) {
                return SIZE;
            }
            return spans(i, n) ? NO_FAULT : INDEX;
        }

        int faultOfCopy(int i, Sheet target, int j, int n) {
            if (hasNothing() || target.hasNothing()) {
                return NULL;
            }
            if (lane != target.lane) {
                return CAST;
            }
            return spans(i, n) && target.spans(j, n) ? NO_FAULT : INDEX;
        }

        private boolean spans(int i, int n) {
            return n >= 0 && i >= 0 && i <= size && n <= size - i;
        }

        int at(int i) {
            return i >= 0 && i < size ? cells[i] : 0;
        }

        void change(int i, int v) {
            if (i >= 0 && i < size) {
                cells[i] = cut(v);
            }
        }

        private int cut(int v) {
            switch (lane) {
                case BYTES: return (byte) v;
                case SHORTS: return (short) v;
                default: return v;
            }
        }
    }

    /** PLACES with their kinds and NUMBERS; without PLACES it is no RING. */
    private static final class Ring {
        int base = 0;
        int size = 0;
        final int[] kind = new int[MOST_PLACES];
        final int[] number = new int[MOST_PLACES];
        private final int[] coming = new int[MOST_PLACES];

        boolean isNone() {
            return size == 0;
        }

        boolean has(int p) {
            return p >= 0 && p < size;
        }

        /** NONE, if there is no such PLACE. */
        int numberAt(int p) {
            return has(p) ? number[p] : NONE;
        }

        boolean isNumber(int v) {
            return v >= 0 && v < base;
        }

        void takeAll(Ring other) {
            takeKinds(other);
            System.arraycopy(other.number, 0, number, 0, MOST_PLACES);
        }

        void takeKinds(Ring other) {
            base = other.base;
            size = other.size;
            System.arraycopy(other.kind, 0, kind, 0, MOST_PLACES);
        }

        /** NUMBERS by cells of a SHEET from i on; false, if one of them can't be a NUMBER. */
        boolean takeRow(Sheet from, int i) {
            for (int p = 0; p < size; p++) {
                int v = from.at(i + p);
                if (!isNumber(v)) {
                    return false;
                }
                number[p] = v;
            }
            return true;
        }

        void takeFirstRow() {
            Arrays.fill(number, 0);
        }

        /** Behind the last ROW comes the first. */
        void takeNextRow() {
            for (int p = size - 1; p >= 0; p--) {
                if (number[p] < base - 1) {
                    number[p]++;
                    return;
                }
                number[p] = 0;
            }
        }

        int stepped(int p) {
            int plain = howFar(p, 1);
            int far = howFar(p, 2);
            switch (kind[p]) {
                case PLAIN: return plain;
                case FAR: return far;
                // Both are less than BASE, so what is left over is at most one BASE less.
                default: return plain + far < base ? plain + far : plain + far - base;
            }
        }

        private int howFar(int p, int ahead) {
            // A RING has two PLACES or more, so two ahead is at most once around.
            int q = p + ahead < size ? p + ahead : p + ahead - size;
            return Math.abs(number[p] - number[q]);
        }

        void go(int steps) {
            for (int s = 0; s < steps; s++) {
                for (int p = 0; p < size; p++) {
                    coming[p] = stepped(p);
                }
                System.arraycopy(coming, 0, number, 0, size);
            }
        }

        int zeros() {
            int zeros = 0;
            for (int p = 0; p < size; p++) {
                if (number[p] == 0) {
                    zeros++;
                }
            }
            return zeros;
        }

        boolean isOut() {
            return zeros() == size;
        }

        int total() {
            int total = 0;
            for (int p = 0; p < size; p++) {
                total += number[p];
            }
            return total;
        }

        /** How many ROWS are ahead of this one in their order. */
        int code() {
            int code = 0;
            for (int p = 0; p < size; p++) {
                code = code * base + number[p];
            }
            return code;
        }

        int steppedCode() {
            int code = 0;
            for (int p = 0; p < size; p++) {
                code = code * base + stepped(p);
            }
            return code;
        }
    }

    /** A TEXT: two codes ahead, then three for each PLACE. */
    private static final class Text {
        private static final int HEAD = 2, EACH = 3;

        static int firstFault(Sheet from, int i, int n) {
            int base = 0;
            for (int at = 0; at < n; at++) {
                int code = from.at(i + at);
                if (!goesOn(at, code, base)) {
                    return at;
                }
                if (at == 1) {
                    base = code - '0';
                }
            }
            boolean ends = n >= HEAD + EACH * FEWEST_PLACES && (n - HEAD) % EACH == 0;
            return ends ? NONE : n;
        }

        private static boolean goesOn(int at, int code, int base) {
            if (at == 0) {
                return code == 'r';
            }
            if (at == 1) {
                return code >= '0' + LEAST_BASE && code <= '0' + MOST_BASE;
            }
            switch ((at - HEAD) % EACH) {
                case 0: return code == ';' && (at - HEAD) / EACH < MOST_PLACES;
                case 1: return kindOf(code) != NONE;
                default: return code >= '0' && code < '0' + base;
            }
        }

        private static int kindOf(int letter) {
            switch (letter) {
                case 'p': return PLAIN;
                case 'f': return FAR;
                case 'm': return MIXED;
                default: return NONE;
            }
        }

        /** Only for a TEXT that has no fault. */
        static void take(Sheet from, int i, int n, Ring ring) {
            ring.base = from.at(i + 1) - '0';
            ring.size = Math.min((n - HEAD) / EACH, MOST_PLACES);
            for (int p = 0; p < ring.size; p++) {
                int at = i + HEAD + EACH * p;
                ring.kind[p] = kindOf(from.at(at + 1));
                ring.number[p] = from.at(at + 2) - '0';
            }
        }
    }

    /** What came of a DAY that was played on a RING. */
    private static final class Day {
        int firstWrong = NONE;
        int stepsIn = 0;
        int outs = 0;

        static boolean areActs(Sheet from, int i, int n) {
            for (int act = 0; act < n; act++) {
                int first = from.at(i + 2 * act);
                int second = from.at(i + 2 * act + 1);
                if (!isAct(first, second)) {
                    return false;
                }
            }
            return true;
        }

        private static boolean isAct(int first, int second) {
            if (second == STEPS_ACT) {
                return first >= 0 && first <= MOST_STEPS;
            }
            return second >= 0 && second < MOST_PLACES && first >= 0 && first < MOST_BASE;
        }

        void play(Ring ring, Sheet from, int i, int n) {
            firstWrong = NONE;
            stepsIn = 0;
            outs = 0;
            for (int act = 0; act < n && firstWrong == NONE; act++) {
                if (!canDo(ring, from.at(i + 2 * act), from.at(i + 2 * act + 1))) {
                    firstWrong = act;
                } else if (ring.isOut()) {
                    outs++;
                }
            }
        }

        /** Does the act, if it can be. */
        private boolean canDo(Ring ring, int first, int second) {
            if (second == STEPS_ACT) {
                ring.go(first);
                stepsIn += first;
                return true;
            }
            if (!ring.has(second) || !ring.isNumber(first)) {
                return false;
            }
            ring.number[second] = first;
            return true;
        }
    }

    /**
     * ALL ROWS of a RING, each by its code. Worked out once for a TEXT: neither STEPS nor written NUMBERS change what
     * a ROW becomes.
     */
    private static final class AllRows {
        private final Ring probe = new Ring();
        private int[] next = new int[0];
        private int[] comers = new int[0];
        private int[] order = new int[0];
        private int[] root = new int[0];
        private int[] tail = new int[0];
        private int ordered = 0;
        int count = 0;
        int staying = 0;
        int barren = 0;
        int goingOut = 0;
        int rounds = 0;
        int longestTail = 0;
        int firstOfLongest = 0;

        void forget() {
            count = 0;
        }

        void workOut(Ring ring) {
            if (count > 0 || ring.isNone()) {
                return;
            }
            probe.takeKinds(ring);
            count = 1;
            for (int p = 0; p < ring.size; p++) {
                count *= ring.base;
            }
            makeRoom();
            findNext();
            orderThoseThatDoNotComeBack();
            findRounds();
            findTails();
            sumUp();
        }

        /** Rows are made only where those of an earlier RING are too short. */
        private void makeRoom() {
            if (next.length < count) {
                next = new int[count];
                comers = new int[count];
                order = new int[count];
                root = new int[count];
                tail = new int[count];
            }
        }

        private void findNext() {
            Arrays.fill(comers, 0);
            probe.takeFirstRow();
            for (int row = 0; row < count; row++) {
                int to = probe.steppedCode();
                if (isRow(to)) {
                    next[row] = to;
                    comers[to]++;
                }
                probe.takeNextRow();
            }
        }

        /** Takes away, again and again, ROWS that come of none that is left: those that stay come back. */
        private void orderThoseThatDoNotComeBack() {
            ordered = 0;
            for (int row = 0; row < count; row++) {
                if (comers[row] == 0) {
                    takeAway(row);
                }
            }
            barren = ordered;
            for (int at = 0; at < ordered && at < count; at++) {
                int to = nextOf(order[at]);
                comers[to]--;
                if (comers[to] == 0) {
                    takeAway(to);
                }
            }
        }

        private void takeAway(int row) {
            if (ordered < count) {
                order[ordered] = row;
                ordered++;
            }
        }

        /** The root of a ROW is the first ROW of the round that it comes to. */
        private void findRounds() {
            rounds = 0;
            Arrays.fill(root, NONE);
            for (int row = 0; row < count; row++) {
                if (comers[row] > 0 && root[row] == NONE) {
                    rounds++;
                    markRound(row);
                }
            }
        }

        private void markRound(int first) {
            int row = first;
            for (int s = 0; s < count && root[row] == NONE; s++) {
                root[row] = first;
                tail[row] = 0;
                row = nextOf(row);
            }
        }

        /** From the last that was taken away on, so what a ROW becomes is known ahead of it. */
        private void findTails() {
            for (int at = ordered - 1; at >= 0; at--) {
                int row = order[at];
                int to = nextOf(row);
                if (isRow(row)) {
                    tail[row] = tail[to] + 1;
                    root[row] = root[to];
                }
            }
        }

        private void sumUp() {
            staying = 0;
            goingOut = 0;
            longestTail = 0;
            firstOfLongest = 0;
            for (int row = 0; row < count; row++) {
                if (next[row] == row) {
                    staying++;
                }
                if (goesOut(row)) {
                    goingOut++;
                }
                if (tail[row] > longestTail) {
                    longestTail = tail[row];
                    firstOfLongest = row;
                }
            }
        }

        private boolean isRow(int row) {
            return row >= 0 && row < count;
        }

        /** Always a ROW. */
        int nextOf(int row) {
            return isRow(row) ? next[row] : 0;
        }

        int tailOf(int row) {
            return isRow(row) ? tail[row] : 0;
        }

        int roundOf(int row) {
            int first = isRow(row) ? root[row] : 0;
            int round = 1;
            for (int at = nextOf(first); at != first && round < count; at = nextOf(at)) {
                round++;
            }
            return round;
        }

        /** The ROW of which all is 0 has code 0, and it stays: it is a round alone. */
        boolean goesOut(int row) {
            return isRow(row) && root[row] == 0;
        }

        int behind(int row, long steps) {
            int tailThen = tailOf(row);
            int round = roundOf(row);
            long left = steps;
            if (left > tailThen && round > 0) {
                left = tailThen + (left - tailThen) % round;
            }
            int at = row;
            // A TAIL and a ROUND together are no more than there are ROWS.
            for (int s = 0; s < left && s < count; s++) {
                at = nextOf(at);
            }
            return at;
        }

        int comersOf(int row) {
            int many = 0;
            for (int at = 0; at < count; at++) {
                if (next[at] == row) {
                    many++;
                }
            }
            return many;
        }

        int firstComerOf(int row) {
            for (int at = 0; at < count; at++) {
                if (next[at] == row) {
                    return at;
                }
            }
            return NONE;
        }

        /** Behind the longest TAIL both go round, and such as go round unlike stay unlike. */
        int meeting(int one, int other) {
            int a = one;
            int b = other;
            for (int s = 0; s <= longestTail; s++) {
                if (a == b) {
                    return s;
                }
                a = nextOf(a);
                b = nextOf(b);
            }
            return NONE;
        }

        int leastSetToGoOut(int row) {
            int least = (1 << probe.size) - 1;
            for (int at = 0; at < count; at++) {
                if (goesOut(at)) {
                    int set = unlikePlaces(row, at);
                    int more = Integer.bitCount(set) - Integer.bitCount(least);
                    if (more < 0 || more == 0 && set < least) {
                        least = set;
                    }
                }
            }
            return least;
        }

        private int unlikePlaces(int one, int other) {
            if (probe.base < LEAST_BASE) {
                return 0;
            }
            int a = one;
            int b = other;
            int set = 0;
            for (int p = probe.size - 1; p >= 0; p--) {
                if (a % probe.base != b % probe.base) {
                    set |= 1 << p;
                }
                a /= probe.base;
                b /= probe.base;
            }
            return set;
        }

        int numberIn(int row, int p) {
            if (probe.base < LEAST_BASE) {
                return 0;
            }
            int rest = row;
            for (int q = probe.size - 1; q > p; q--) {
                rest /= probe.base;
            }
            return rest % probe.base;
        }
    }

    /**
     * Where ALL ROWS are behind so many STEPS: those that are the same by then are kept once, with how many they are,
     * since soon few are left.
     */
    private static final class Spread {
        private int[] row = new int[0];
        private int[] weight = new int[0];
        private int[] place = new int[0];
        private int unlike = 0;
        private int age = NONE;

        void forget() {
            age = NONE;
        }

        void goTo(AllRows all, int steps) {
            if (age == NONE || age > steps) {
                begin(all);
            }
            for (int s = age; s < steps; s++) {
                stepAll(all);
            }
            age = steps;
        }

        private void begin(AllRows all) {
            if (row.length < all.count) {
                row = new int[all.count];
                weight = new int[all.count];
                place = new int[all.count];
            }
            for (int at = 0; at < all.count; at++) {
                row[at] = at;
                weight[at] = 1;
            }
            unlike = all.count;
            age = 0;
        }

        private void stepAll(AllRows all) {
            int kept = 0;
            for (int at = 0; at < unlike; at++) {
                int to = all.nextOf(row[at]);
                int known = whereKept(to, kept);
                if (known != NONE) {
                    weight[known] += weight[at];
                } else if (to < place.length) {
                    place[to] = kept;
                    row[kept] = to;
                    weight[kept] = weight[at];
                    kept++;
                }
            }
            unlike = kept;
        }

        /** What stands in place may be of an earlier STEP: it counts only if it leads to the ROW itself. */
        private int whereKept(int to, int kept) {
            int known = to < place.length ? place[to] : NONE;
            return known >= 0 && known < kept && row[known] == to ? known : NONE;
        }

        int howMany(AllRows all, int p, int v) {
            int many = 0;
            for (int at = 0; at < unlike; at++) {
                if (all.numberIn(row[at], p) == v) {
                    many += weight[at];
                }
            }
            return many;
        }
    }

    /** READINGS in the order in which they came. */
    private static final class Readings {
        private final int[] time = new int[MOST_READINGS];
        private final int[] place = new int[MOST_READINGS];
        private final int[] number = new int[MOST_READINGS];
        int count = 0;

        int keep(int t, int p, int v) {
            if (count >= MOST_READINGS) {
                return FULL;
            }
            time[count] = t;
            place[count] = p;
            number[count] = v;
            count++;
            return count - 1;
        }

        /** Steps the RING on as it looks. */
        boolean areSo(Ring ring) {
            int last = lastTime();
            for (int t = 0; t <= last; t++) {
                if (!areSoAt(t, ring)) {
                    return false;
                }
                ring.go(1);
            }
            return true;
        }

        private int lastTime() {
            int last = 0;
            for (int k = 0; k < count; k++) {
                last = Math.max(last, time[k]);
            }
            return last;
        }

        private boolean areSoAt(int t, Ring ring) {
            for (int k = 0; k < count; k++) {
                if (time[k] == t && ring.numberAt(place[k]) != number[k]) {
                    return false;
                }
            }
            return true;
        }
    }
}
