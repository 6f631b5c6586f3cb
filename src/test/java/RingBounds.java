/** The document's part 1, and promises 1 to 4: a new object, ring, ofPlace, write. */
final class RingBounds {
    private static final String TEXT = "r6;p0;f1;m2;p3;f4";
    /** a b becomes 0 and how far b is from a, and stays so. */
    private static final String FAR_PLAIN = "r6;f0;p0";

    private final Bounds b;

    RingBounds(Bounds b) {
        this.b = b;
    }

    void run() {
        text();
        firstFault();
        kindsAndSteps();
        newObject();
        ring();
        ringRefused();
        ofPlace();
        write();
    }

    /** TEXT with another code at a place, as a new object takes it. */
    private static long withCode(String text, int at, int code) {
        int[] codes = Due.codes(text);
        codes[at] = code;
        DifferRings x = new DifferRings();
        Due.fill(x, 1, 2, codes);
        return x.ring(1, 2, 0, codes.length);
    }

    private static final int[] CODES_BEYOND = {-1, 256, 114 + 256, 65536 + 114, -142, Bounds.LEAST, Bounds.MOST};

    /** Which of all codes may stand at a place of a TEXT, and that the others are its FIRST FAULT. */
    private void onlyCodes(String text, int at, String allowed) {
        int places = (text.length() - 2) / 3;
        for (int code = -128; code < 256; code++) {
            boolean goesOn = code >= 0 && allowed.indexOf(code) >= 0;
            b.is("code " + code + " at " + at + " of " + text, withCode(text, at, code), goesOn ? places : -100 - at);
        }
        for (int code : CODES_BEYOND) {
            b.is("code " + code + " at " + at + " of " + text, withCode(text, at, code), -100 - at);
        }
        b.is("letters of a text at " + at, withCode(text, at, allowed.charAt(0)), places);
        for (int k = 0; k < allowed.length(); k++) {
            b.is("256 more at " + at, withCode(text, at, allowed.charAt(k) + 256), -100 - at);
            b.is("65536 more at " + at, withCode(text, at, allowed.charAt(k) + 65536), -100 - at);
        }
    }

    private static String placesOf(int n) {
        StringBuilder text = new StringBuilder("r6");
        for (int p = 0; p < n; p++) {
            text.append(";p").append(5 - p % 6);
        }
        return text.toString();
    }

    private void text() {
        b.section("Part 1");
        b.says("A RING by a TEXT: r", () -> onlyCodes("r2;p0;p1", 0, "r"));
        b.says("a digit 2 .. 6 (BASE)", () -> {
            onlyCodes("r2;p0;p1", 1, "23456");
            for (int base = 2; base <= 6; base++) {
                b.is("base " + base, Due.ringOf("r" + base + ";p0;p1").many(1), base);
            }
        });
        b.says("then 2 to 5 PLACES, numbered from 0 on", () -> {
            b.is("no place", Due.tell(new DifferRings(), placesOf(0)), -102);
            b.is("1 place", Due.tell(new DifferRings(), placesOf(1)), -105);
            for (int n = 2; n <= 5; n++) {
                DifferRings x = new DifferRings();
                b.is(n + " places", Due.tell(x, placesOf(n)), n);
                b.is("place -1 of " + n, x.ofPlace(-1, 1), -1);
                b.is("the first of " + n, x.ofPlace(0, 1), 5);
                b.is("the last of " + n, x.ofPlace(n - 1, 1), 6 - n);
                b.is("one more than " + n, x.ofPlace(n, 1), -1);
            }
            b.is("6 places", Due.tell(new DifferRings(), placesOf(6)), -117);
            b.is("19 places", Due.tell(new DifferRings(), placesOf(19)), -117);
        });
        b.says("each: ; and a letter (its kind)", () -> {
            for (int p = 0; p < 5; p++) {
                onlyCodes(TEXT, 2 + 3 * p, ";");
                onlyCodes(TEXT, 3 + 3 * p, "pfm");
            }
        });
        b.says("a digit 0 .. BASE less 1 (NUMBER)", () -> {
            for (int base = 2; base <= 6; base++) {
                String text = "r" + base + ";p0;f0;m0;p0;f0";
                for (int p = 0; p < 5; p++) {
                    onlyCodes(text, 4 + 3 * p, "012345".substring(0, base));
                }
            }
        });
    }

    private void firstFault() {
        b.says("FIRST FAULT: the place (from 0 on) of the first code with which no TEXT goes on (the ; of a sixth PLACE)",
            () -> {
                b.is("the first of two", Due.tell(new DifferRings(), "r6;x9;y9"), -103);
                b.is("the last code", Due.tell(new DifferRings(), "r6;p0;p6"), -107);
                b.is("the ; of a sixth place", Due.tell(new DifferRings(), TEXT + ";"), -117);
                b.is("a whole sixth place", Due.tell(new DifferRings(), TEXT + ";p0"), -117);
                b.is("another code there", Due.tell(new DifferRings(), TEXT + "p"), -117);
                b.is("a fault ahead of a sixth place", Due.tell(new DifferRings(), "r6;p0;f1;m2;p3;f6;p0"), -116);
                DifferRings x = new DifferRings();
                Due.fill(x, 0, 0, Due.codes("r2;p0r2;p0;p2"));
                b.is("from the cell on that is told", x.ring(0, 0, 5, 8), -107);
                b.is("a base that a later number needs", Due.tell(new DifferRings(), "r2;p1;p1;p2"), -110);
            });
        b.says("how many codes there are, if it just ends too soon", () -> {
            for (int n = 0; n <= TEXT.length(); n++) {
                boolean ends = n == 8 || n == 11 || n == 14 || n == 17;
                DifferRings x = new DifferRings();
                b.is(n + " codes", Due.tell(x, TEXT.substring(0, n)), ends ? (n - 2) / 3 : -100 - n);
                b.is("places by " + n + " codes", x.many(0), ends ? (n - 2) / 3 : 0);
                b.is("fault() behind " + n + " codes", x.fault(), 0);
                DifferRings longer = new DifferRings();
                Due.fill(longer, 2, 1, Due.codes(TEXT));
                b.is(n + " codes of more", longer.ring(2, 1, 0, n), ends ? (n - 2) / 3 : -100 - n);
            }
        });
        b.says("(Codes: r 114, p 112, f 102, m 109, ; 59, digits 48 .. 57.)", () -> {
            DifferRings x = new DifferRings();
            Due.fill(x, 0, 0, 114, 54, 59, 112, 48, 59, 102, 53, 59, 109, 49);
            b.is("by numbers", x.ring(0, 0, 0, 11), 3);
            b.row("kind", 0, new long[] {0, 1, 2, -1}, p -> x.ofPlace((int) p, 0));
            b.row("number", 0, new long[] {0, 5, 1, -1}, p -> x.ofPlace((int) p, 1));
            for (int capital : new int[] {82, 80, 70, 77}) {
                b.is("capital " + capital, withCode("r6;p0;p0", capital == 82 ? 0 : 3, capital), capital == 82 ? -100 : -103);
            }
        });
    }

    private void next(String text, long... want) {
        DifferRings x = Due.ringOf(text);
        b.row(text + " becomes", 0, want, p -> x.ofPlace((int) p, 2));
        x.steps(1);
        b.row(text + " became", 0, want, p -> x.ofPlace((int) p, 1));
        b.is(text + " has no more", x.ofPlace(want.length, 1), -1);
    }

    private void kindsAndSteps() {
        b.says("Kinds: 0 PLAIN (p); 1 FAR (f), a PLAIN one; 2 MIXED (m), a FAR one.", () -> {
            DifferRings x = Due.ringOf("r6;p1;f1;m1");
            for (int p = 0; p < 3; p++) {
                b.is("kind of " + p, x.ofPlace(p, 0), p);
                for (int kind = 0; kind < 3; kind++) {
                    b.is(p + " as " + kind, x.as(p, kind), kind <= p ? 1 : -12);
                }
            }
        });
        b.says("A TEXT that is taken makes all anew: no STEP was done, no READINGS.", () -> {
            String[] texts = {"r2;p0;p1", "r5;p4;f1;m3;p0", TEXT};
            for (String text : texts) {
                DifferRings x = Bounds.fullOfReadings();
                b.is("steps ahead of it", x.many(2), 2);
                b.is("readings ahead of it", x.many(4), 8);
                b.is("taken", Due.tell(x, text), (text.length() - 2) / 3);
                b.is("steps", x.many(2), 0);
                b.is("readings", x.many(4), 0);
                b.is("none to take back", x.back(1), -2);
                b.is("kinds by no readings", x.kinds(1), 7);
                b.is("the first reading", x.reading(0, 0, 0), 0);
                for (int p = 0; p < (text.length() - 2) / 3; p++) {
                    b.is("number " + p, x.ofPlace(p, 1), text.charAt(4 + 3 * p) - '0');
                }
            }
            anewThoughAsked("r5;m0;m0;f0;f0;f0", FAR_PLAIN);
            anewThoughAsked("r2;p0;p0", FAR_PLAIN);
            anewThoughAsked("r6;p0;p0", FAR_PLAIN);
            // Of the five, 0 0 0 1 1 goes round; it has the number among ROWS that 1 1 has of the two, which goes out.
            DifferRings lesser = Due.ringOf("r2;p0;p0;p0;p0;p0");
            b.row("rows of five", 0, new long[] {32, 1, 16, 2, 2}, k -> lesser.rows((int) k));
            Due.tell(lesser, "r2;p0;p0");
            b.row("rows of two behind five", 0, new long[] {4, 1, 2, 4, 1}, k -> lesser.rows((int) k));
            DifferRings kept = Bounds.fullOfReadings();
            b.is("one that is not taken", kept.ring(3, 0, 0, 13), -113);
            b.is("steps are kept", kept.many(2), 2);
            b.is("readings are kept", kept.many(4), 8);
        });
        b.says("The PLACES are in a ring in the order of their numbers, behind the last one the first.", () -> {
            next("r6;p5;p3", 2, 2);
            next("r6;p5;p3;p2", 2, 1, 3);
            next("r6;p5;p3;p2;p2", 2, 1, 0, 3);
            next("r6;p5;p3;p2;p2;p0", 2, 1, 0, 2, 5);
        });
        b.says("A STEP: all at once, each by all NUMBERS ahead of it, becomes", () -> {
            // One by one, the last would be 2 from the 2 that the first has become.
            next("r6;p5;p3;p0", 2, 3, 5);
            next("r6;f5;f3;f0", 5, 2, 3);
        });
        b.says("a PLAIN PLACE's NUMBER how far it is from that of the next one (greater less lesser)", () -> {
            next("r6;p0;p5", 5, 5);
            next("r6;p5;p0", 5, 5);
            next("r6;p4;p4", 0, 0);
            next("r2;p0;p1;p1", 1, 0, 1);
        });
        b.says("a FAR one's how far it is from that of the one behind the next (of two PLACES: from itself)", () -> {
            next("r6;f5;f0", 0, 0);
            next("r6;f5;p0", 0, 5);
            next("r6;f5;f0;f3", 2, 5, 3);
            next("r6;f5;f0;f3;f1", 2, 1, 2, 1);
            next("r6;f0;f1;f2;f4;f5", 2, 3, 3, 4, 4);
        });
        b.says("a MIXED one's what a FAR one's does and what a PLAIN one's does together, left over by BASE.", () -> {
            next("r6;m5;m3", 2, 2);
            // 3 and 3 is 2 over 4; 0 and 3 is the greatest that is no more than itself.
            next("r4;m0;m3;m3", 2, 3, 3);
            // 2 and 2 is BASE, which leaves 0.
            next("r4;m0;m2;m2", 0, 2, 2);
            next("r6;m0;m5;m5;m5;m0", 4, 0, 5, 4, 5);
            next("r2;m0;m1;m1", 0, 1, 1);
        });
    }

    /** What was worked out for a TEXT is nothing to the next one: the RING of a FAR and a PLAIN one is known by hand. */
    private void anewThoughAsked(String ahead, String text) {
        DifferRings x = Due.ringOf(ahead);
        x.rows(4);
        x.odds(0, 1, 0, 0);
        b.is(text + " behind " + ahead, Due.tell(x, text), 2);
        b.row("rows behind " + ahead, 0, new long[] {36, 6, 30, 6, 6}, k -> x.rows((int) k));
        b.row("longest behind " + ahead, -1, new long[] {1, 1, 0, -9, -9, -9}, k -> x.longest((int) k));
        b.row("upper of the first", 0, new long[] {1, 0, 0, 0, 0, 0}, v -> x.odds(0, 1, (int) v, 0));
        b.row("lower of the second", 0, new long[] {6, 18, 9, 6, 9, 18}, v -> x.odds(1, 1, (int) v, 1));
        b.row("lower of now", 0, new long[] {6, 6, 6, 6, 6, 6}, v -> x.odds(1, 0, (int) v, 1));
    }

    private void newObject() {
        b.section("Promise 1");
        b.says("No RING (no PLACES)", () -> {
            DifferRings x = new DifferRings();
            b.row("many", 0, new long[] {0, 0, 0, 0, 0}, k -> x.many((int) k));
            b.is("ofPlace", x.ofPlace(0, 0), -1);
            b.is("write", x.write(0, 0), -1);
            b.is("steps", x.steps(1), -3);
            b.is("after", x.after(0, 0), -1);
            b.is("day", x.day(0, 0, 0, 0, 0), -3);
            b.is("now", x.now(0), -3);
            b.is("from", x.from(-1), -3);
            b.is("rows", x.rows(0), -3);
            b.is("longest", x.longest(-1), -3);
            b.is("meet", x.meet(0, 0, 0), -3);
            b.is("few", x.few(0), -3);
            b.is("reading", x.reading(0, 0, 0), -1);
            b.is("back", x.back(0), 0);
            b.is("kinds", x.kinds(0), -1);
            b.is("firsts", x.firsts(0), -1);
            b.is("odds", x.odds(0, 0, 0, 0), Bounds.LOST);
            b.is("tell", x.tell(0), -1);
            b.is("call", x.call(0), -1);
            b.is("as", x.as(0, 0), -1);
            b.is("trace", x.trace(), 0);
            b.is("fault", x.fault(), 0);
        });
        b.says("SHEETS have nothing", () -> {
            for (int k = 0; k < 4; k++) {
                int sheet = k;
                for (int lane = 0; lane < 3; lane++) {
                    int as = lane;
                    b.lost(DifferRings::new, "cell of " + k, Bounds.NULL, x -> x.cell(sheet, 0, as));
                    b.faulted(DifferRings::new, "ring by " + k, Bounds.NULL, x -> x.ring(sheet, as, 0, 0));
                }
                b.faulted(DifferRings::new, "put to " + k, Bounds.NULL, x -> x.put(sheet, 0, 1));
                b.faulted(DifferRings::new, "copy of " + k, Bounds.NULL, x -> x.copy(sheet, 0, sheet, 0, 0));
                b.refused(DifferRings::new, "lose " + k, 0, x -> x.lose(sheet));
            }
        });
    }

    private void ring() {
        b.section("Promise 2");
        b.says("A RING by a TEXT of n cells of a SHEET from i on, taken as a row of a LANE: how many PLACES", () -> {
            for (int k = 0; k < 4; k++) {
                for (int lane = 0; lane < 3; lane++) {
                    int sheet = k;
                    int as = lane;
                    b.taken(() -> onSheet(sheet, as, TEXT), "all cells", 5, x -> x.ring(sheet, as, 0, 17));
                    b.taken(() -> onSheet(sheet, as, TEXT), "the least part", 2, x -> x.ring(sheet, as, 0, 8));
                    b.taken(() -> onSheet(sheet, as, "xr2;p0;p1"), "to the last cell", 2, x -> x.ring(sheet, as, 1, 8));
                }
            }
            String sixty = " ".repeat(52) + "r3;m2;f0";
            DifferRings last = onSheet(3, 2, sixty);
            b.is("the last cells of 60", last.ring(3, 2, 52, 8), 2);
            b.is("base by them", last.many(1), 3);
            b.row("kinds by them", 0, new long[] {2, 1, -1}, p -> last.ofPlace((int) p, 0));
            b.row("numbers by them", 0, new long[] {2, 0, -1}, p -> last.ofPlace((int) p, 1));
            last.put(3, 53, '6');
            last.put(3, 56, '1');
            b.is("what the sheet becomes later is nothing to it", last.many(1), 3);
            last.lose(3);
            b.is("nor that it has nothing", last.ofPlace(0, 1), 2);
        });
        b.says("-100 less the FIRST FAULT.", () -> {
            b.refusedFaultless(() -> onFull("r6;x"), "another code", -103, x -> x.ring(2, 1, 0, 4));
            b.refusedFaultless(() -> onFull(TEXT + ";"), "the 18th code", -117, x -> x.ring(2, 1, 0, 18));
        });
    }

    private static DifferRings onSheet(int k, int lane, String text) {
        DifferRings x = new DifferRings();
        Due.fill(x, k, lane, Due.codes(text));
        return x;
    }

    /** As Bounds.full(), with a TEXT as shorts on SHEET 2. */
    private static DifferRings onFull(String text) {
        DifferRings x = Bounds.full();
        Due.fill(x, 2, 1, Due.codes(text));
        return x;
    }

    private void ringRefused() {
        b.says("UNKNOWN", () -> {
            for (int k : Bounds.beyond(0, 3)) {
                b.refusedFaultless(Bounds::full, "sheet " + k, -1, x -> x.ring(k, 0, 0, 14));
                b.refusedFaultless(Bounds::full, "sheet ahead of all, " + k, -1, x -> x.ring(k, 3, -1, -1));
            }
        });
        b.says("OUTSIDE: lane", () -> {
            for (int lane : Bounds.beyond(0, 2)) {
                b.refusedFaultless(Bounds::full, "lane " + lane, -2, x -> x.ring(3, lane, 0, 14));
                b.refusedFaultless(Bounds::full, "lane ahead of faults, " + lane, -2, x -> x.ring(2, lane, -1, -1));
            }
        });
        b.says("CAST (nothing is no CAST)", () -> {
            b.faulted(Bounds::full, "bytes as shorts", Bounds.CAST, x -> x.ring(3, 1, 0, 14));
            b.faulted(Bounds::full, "bytes as ints", Bounds.CAST, x -> x.ring(3, 2, 0, 14));
            b.faulted(Bounds::full, "shorts as bytes", Bounds.CAST, x -> x.ring(1, 0, 0, 6));
            b.faulted(Bounds::full, "shorts as ints", Bounds.CAST, x -> x.ring(1, 2, 0, 6));
            b.faulted(Bounds::withoutRing, "ints as bytes", Bounds.CAST, x -> x.ring(1, 0, 0, 3));
            b.faulted(Bounds::withoutRing, "ints as shorts", Bounds.CAST, x -> x.ring(1, 1, 0, 3));
            b.faulted(Bounds::full, "ahead of size and index", Bounds.CAST, x -> x.ring(3, 1, -1, -1));
            for (int lane = 0; lane < 3; lane++) {
                int as = lane;
                b.faulted(Bounds::full, "nothing as " + lane, Bounds.NULL, x -> x.ring(2, as, 0, 0));
            }
        });
        b.says("NULL", () -> {
            b.faulted(Bounds::full, "nothing", Bounds.NULL, x -> x.ring(2, 0, 0, 14));
            b.faulted(Bounds::full, "no cells of nothing", Bounds.NULL, x -> x.ring(2, 0, 0, 0));
            b.faulted(Bounds::full, "ahead of size and index", Bounds.NULL, x -> x.ring(2, 0, -1, -1));
            b.faulted(() -> lost(3), "a sheet that was lost", Bounds.NULL, x -> x.ring(3, 0, 0, 14));
        });
        b.says("SIZE: n below 0", () -> {
            for (int n : new int[] {-1, -14, Bounds.LEAST}) {
                b.faulted(Bounds::full, "n " + n, Bounds.SIZE, x -> x.ring(3, 0, 0, n));
                b.faulted(Bounds::full, "ahead of index, n " + n, Bounds.SIZE, x -> x.ring(3, 0, -1, n));
                b.faulted(Bounds::full, "ahead of index beyond, n " + n, Bounds.SIZE, x -> x.ring(3, 0, 15, n));
            }
        });
        b.says("INDEX", () -> {
            for (int i : Bounds.beyond(0, 14)) {
                b.faulted(Bounds::full, "none from " + i, Bounds.INDEX, x -> x.ring(3, 0, i, 0));
                b.faulted(Bounds::full, "one from " + i, Bounds.INDEX, x -> x.ring(3, 0, i, 1));
                b.faulted(Bounds::full, "most from " + i, Bounds.INDEX, x -> x.ring(3, 0, i, Bounds.MOST));
            }
            b.faulted(Bounds::full, "one more", Bounds.INDEX, x -> x.ring(3, 0, 0, 15));
            b.faulted(Bounds::full, "one further on", Bounds.INDEX, x -> x.ring(3, 0, 1, 14));
            b.faulted(Bounds::full, "one behind the last", Bounds.INDEX, x -> x.ring(3, 0, 14, 1));
            b.faulted(Bounds::full, "most", Bounds.INDEX, x -> x.ring(3, 0, 0, Bounds.MOST));
            b.faulted(() -> onFull(""), "one of a row of none", Bounds.INDEX, x -> x.ring(2, 1, 0, 1));
            b.faulted(() -> onFull(""), "none behind a row of none", Bounds.INDEX, x -> x.ring(2, 1, 1, 0));
            b.faulted(() -> onFull("x".repeat(60)), "the 61st", Bounds.INDEX, x -> x.ring(2, 1, 0, 61));
        });
        b.says("-100 less it.", () -> {
            b.refusedFaultless(Bounds::full, "none behind the last", -100, x -> x.ring(3, 0, 14, 0));
            b.refusedFaultless(Bounds::full, "none from the first", -100, x -> x.ring(3, 0, 0, 0));
            b.refusedFaultless(() -> onFull(""), "a row of none", -100, x -> x.ring(2, 1, 0, 0));
            b.refusedFaultless(Bounds::full, "too soon", -113, x -> x.ring(3, 0, 0, 13));
            b.refusedFaultless(Bounds::full, "from another cell", -100, x -> x.ring(3, 0, 1, 13));
        });
    }

    private static DifferRings lost(int k) {
        DifferRings x = Bounds.full();
        x.lose(k);
        return x;
    }

    private void ofPlace() {
        b.section("Promise 3");
        DifferRings x = Due.ringOf("r6;p0;f1;m2;p3;f5");
        b.says("Of a PLACE: 0 kind", () ->
            b.row("kind", -1, new long[] {-1, 0, 1, 2, 0, 1, -1}, p -> x.ofPlace((int) p, 0)));
        b.says("1 NUMBER", () ->
            b.row("number", -1, new long[] {-1, 0, 1, 2, 3, 5, -1}, p -> x.ofPlace((int) p, 1)));
        b.says("2 what that becomes by the next STEP", () -> {
            b.row("next", -1, new long[] {-1, 1, 2, 4, 2, 4, -1}, p -> x.ofPlace((int) p, 2));
            b.row("number is kept", 0, new long[] {0, 1, 2, 3, 5}, p -> x.ofPlace((int) p, 1));
            b.is("no step was done", x.many(2), 0);
        });
        b.says("UNKNOWN", () -> {
            for (int p : Bounds.beyond(0, 3)) {
                for (int what = -1; what <= 3; what++) {
                    int of = what;
                    b.refused(Bounds::full, "place " + p + " what " + what, -1, y -> y.ofPlace(p, of));
                }
            }
            b.refused(Bounds::withoutRing, "no ring", -1, y -> y.ofPlace(0, 0));
            b.refused(Bounds::withoutRing, "no ring, another what", -1, y -> y.ofPlace(0, 3));
        });
        b.says("OUTSIDE", () -> {
            for (int what : Bounds.beyond(0, 2)) {
                b.refused(Bounds::full, "what " + what, -2, y -> y.ofPlace(0, what));
                b.refused(Bounds::full, "of the last, what " + what, -2, y -> y.ofPlace(3, what));
            }
        });
    }

    private void write() {
        b.section("Promise 4");
        b.says("NUMBER of a PLACE becomes v: what it was", () -> {
            DifferRings x = Due.ringOf("r6;p0;f1;m2;p3;f5");
            b.row("0 at", 0, new long[] {0, 1, 2, 3, 5, -1}, p -> x.write((int) p, 0));
            b.row("5 at", 0, new long[] {0, 0, 0, 0, 0, -1}, p -> x.write((int) p, 5));
            b.row("the same at", 0, new long[] {5, 5, 5, 5, 5, -1}, p -> x.write((int) p, 5));
            b.row("number", 0, new long[] {5, 5, 5, 5, 5, -1}, p -> x.ofPlace((int) p, 1));
            b.is("one alone", x.write(4, 1), 5);
            b.row("number", 0, new long[] {5, 5, 5, 5, 1, -1}, p -> x.ofPlace((int) p, 1));
            b.row("kind", 0, new long[] {0, 1, 2, 0, 1, -1}, p -> x.ofPlace((int) p, 0));
            b.is("no step was done", x.many(2), 0);
        });
        b.says("UNKNOWN", () -> {
            for (int p : Bounds.beyond(0, 3)) {
                b.refused(Bounds::full, "place " + p, -1, x -> x.write(p, 0));
                b.refused(Bounds::full, "place " + p + " and outside", -1, x -> x.write(p, 5));
                b.refused(Bounds::full, "place " + p + " and below", -1, x -> x.write(p, -1));
            }
            b.refused(Bounds::withoutRing, "no ring", -1, x -> x.write(0, 0));
        });
        b.says("OUTSIDE: it is not 0 .. BASE less 1", () -> {
            for (int base = 2; base <= 6; base++) {
                String text = "r" + base + ";p0;p1";
                for (int v : Bounds.beyond(0, base - 1)) {
                    b.refused(() -> Due.ringOf(text), v + " of base " + base, -2, x -> x.write(0, v));
                    b.refused(() -> Due.ringOf(text), v + " at the last, base " + base, -2, x -> x.write(1, v));
                }
                b.is("the greatest of base " + base, Due.ringOf(text).write(1, base - 1), 1);
                b.is("the least of base " + base, Due.ringOf(text).write(1, 0), 1);
            }
        });
    }
}
