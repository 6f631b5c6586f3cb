/** The document's part 4, and promises 14 to 18: reading, back, kinds, firsts, odds. */
final class ReadingsBounds {
    /** By this RING PLACE 0 goes 4 3 2 1 1 0 1, 1 0 1, and so on. */
    private static final String TEXT = "r5;p4;f1;m3;p0";

    private final Bounds b;

    ReadingsBounds(Bounds b) {
        this.b = b;
    }

    void run() {
        readingsOfPart();
        setsOfPart();
        oddsOfPart();
        reading();
        back();
        kindsAndFirsts();
        odds();
    }

    private static DifferRings withReadings(String text, int... readings) {
        DifferRings x = Due.ringOf(text);
        for (int k = 0; k < readings.length; k += 3) {
            x.reading(readings[k], readings[k + 1], readings[k + 2]);
        }
        return x;
    }

    private void kindsBy(String text, int[] readings, long... want) {
        DifferRings x = withReadings(text, readings);
        b.row(text + " kinds of", 0, want, p -> x.kinds((int) p));
    }

    private void firstsBy(String text, int[] readings, long... want) {
        DifferRings x = withReadings(text, readings);
        b.row(text + " firsts of", 0, want, p -> x.firsts((int) p));
    }

    private void readingsOfPart() {
        b.section("Part 4");
        b.says("READINGS, 8 at most", () -> {
            DifferRings x = Due.ringOf(TEXT);
            for (int k = 0; k < 8; k++) {
                b.is("reading " + k, x.reading(0, 0, 4), k);
                b.is("readings", x.many(4), k + 1);
            }
            b.is("a ninth", x.reading(0, 0, 4), -4);
            b.is("readings", x.many(4), 8);
            b.is("one back", x.back(1), 7);
            b.is("another eighth", x.reading(0, 0, 3), 7);
            b.is("it counts", x.firsts(0), 0);
        });
        b.says("numbered by how many there are", () -> {
            DifferRings x = Due.ringOf(TEXT);
            b.is("the first", x.reading(5, 1, 0), 0);
            b.is("the second", x.reading(0, 0, 0), 1);
            b.is("the same once more", x.reading(0, 0, 0), 2);
            x.back(2);
            b.is("behind two taken back", x.reading(0, 3, 0), 1);
            x.back(2);
            b.is("behind all taken back", x.reading(0, 3, 0), 0);
        });
        b.says("behind t STEPS (0 .. 99) from now a PLACE's NUMBER is v", () -> {
            for (int t = 0; t <= 99; t++) {
                DifferRings x = Due.ringOf(TEXT);
                int v = x.after(0, t);
                x.reading(t, 0, v);
                b.holds("so behind " + t, (x.kinds(0) & 1) == 1);
                b.holds("so of its number, behind " + t, (x.firsts(0) >> 4 & 1) == 1);
                x.back(1);
                x.reading(t, 0, v == 0 ? 1 : 0);
                b.holds("not so behind " + t, (x.kinds(0) & 1) == 0);
                b.holds("not so of its number, behind " + t, (x.firsts(0) >> 4 & 1) == 0);
            }
            DifferRings x = withReadings(TEXT, 1, 0, 3);
            b.is("so now", x.kinds(2), 7);
            x.steps(1);
            b.is("a step later it is 2 then", x.kinds(2), 0);
            x.write(0, 4);
            b.is("so as it is written", x.kinds(2), 7);
        });
    }

    private void setsOfPart() {
        b.says("All that follows: in place of what it is alone, by which all READINGS are so", () -> {
            // PLACE 2, which is 3: to the next 3, to the one behind 1, together 4.
            kindsBy(TEXT, new int[] {1, 2, 4}, 7, 7, 4, 7);
            kindsBy(TEXT, new int[] {1, 2, 3}, 0, 0, 1, 0);
            kindsBy(TEXT, new int[] {1, 2, 1}, 0, 0, 2, 0);
            kindsBy(TEXT, new int[] {1, 2, 4, 0, 2, 3, 0, 0, 4}, 7, 7, 4, 7);
            kindsBy(TEXT, new int[] {1, 2, 4, 0, 2, 3, 0, 0, 3}, 0, 0, 0, 0);
            kindsBy(TEXT, new int[] {0, 0, 3, 1, 2, 4, 0, 2, 3}, 0, 0, 0, 0);
            firstsBy(TEXT, new int[] {1, 1, 1}, 31, 2, 31, 5);
            firstsBy(TEXT, new int[] {1, 1, 1, 1, 0, 3}, 16, 2, 31, 5);
            firstsBy(TEXT, new int[] {0, 0, 4, 0, 0, 3}, 0, 0, 0, 0);
            DifferRings x = withReadings(TEXT, 1, 2, 3);
            b.is("asked", x.kinds(2), 1);
            b.is("its kind is kept", x.ofPlace(2, 0), 2);
            b.is("asked once more", x.kinds(2), 1);
            b.is("numbers asked", x.firsts(2), 0);
            b.is("its number is kept", x.ofPlace(2, 1), 3);
        });
        b.says("KINDS of a PLACE: 0 .. 2", () -> {
            kindsBy("r2;p0;p1", new int[0], 7, 7, -1);
            kindsBy("r6;p0;f1;m2;p3;f4", new int[0], 7, 7, 7, 7, 7, -1);
            kindsBy("r2;p0;p1", new int[] {99, 0, 5}, 0, 0, -1);
            // Of two, MIXED is as PLAIN, and FAR is 0.
            kindsBy("r6;p5;p3", new int[] {1, 0, 2}, 5, 7, -1);
            kindsBy("r6;p5;p3", new int[] {1, 0, 0}, 2, 0, -1);
        });
        b.says("FIRSTS: its NUMBER now 0 .. BASE less 1", () -> {
            for (int base = 2; base <= 6; base++) {
                String text = "r" + base + ";p0;p1";
                firstsBy(text, new int[0], (1 << base) - 1, (1 << base) - 1, -1);
                for (int v = 0; v <= 5; v++) {
                    firstsBy(text, new int[] {0, 1, v}, v == 1 ? (1 << base) - 1 : 0, v < base ? 1 << v : 0);
                }
            }
        });
        b.says("as sets.", () -> {
            // 3 is as far from 5 as from 1.
            firstsBy("r6;p0;p3", new int[] {1, 0, 2}, 1 << 5 | 1 << 1, 1 << 2, -1);
            kindsBy("r6;p5;f3;m3", new int[] {1, 0, 2}, 1 << 0 | 1 << 1, 7, 7, -1);
            kindsBy("r6;p0;f2;m4", new int[] {1, 0, 0}, 1 << 2, 0, 0, -1);
        });
    }

    private void share(String text, int p, int t, int v, long upper, long lower) {
        DifferRings x = Due.ringOf(text);
        b.is(text + " upper of " + p + " " + t + " " + v, x.odds(p, t, v, 0), upper);
        b.is(text + " lower of " + p + " " + t + " " + v, x.odds(p, t, v, 1), lower);
        DifferRings other = Due.ringOf(text);
        b.is(text + " lower first, " + p + " " + t + " " + v, other.odds(p, t, v, 1), lower);
    }

    private void oddsOfPart() {
        b.says("ODDS of a PLACE, t, v: of ALL ROWS, all alike, the share of those whose PLACE has NUMBER v behind t STEPS.",
            () -> {
                for (int v = 0; v < 6; v++) {
                    share("r6;p0;p0", 1, 0, v, 1, 6);
                }
                // Of 36 pairs 6 are alike, 10 differ by 1, 8 by 2, 6 by 3, 4 by 4, 2 by 5.
                share("r6;p0;p0", 0, 1, 0, 1, 6);
                share("r6;p0;p0", 0, 1, 1, 5, 18);
                share("r6;p0;p0", 0, 1, 2, 2, 9);
                share("r6;p0;p0", 0, 1, 3, 1, 6);
                share("r6;p0;p0", 0, 1, 4, 1, 9);
                share("r6;p0;p0", 0, 1, 5, 1, 18);
                share("r6;p0;p0", 0, 2, 0, 1, 1);
                share("r6;p0;p0", 0, 99, 0, 1, 1);
                share("r6;p0;p0", 0, 99, 1, 0, 1);
                DifferRings x = withReadings(TEXT, 0, 0, 0);
                x.steps(3);
                b.is("whatever is now, upper", x.odds(0, 2, 0, 0), 33);
                b.is("whatever is now, lower", x.odds(0, 2, 0, 1), 125);
            });
    }

    private void reading() {
        b.section("Promise 14");
        b.says("A READING: its number", () -> {
            DifferRings x = Due.ringOf(TEXT);
            b.is("the first", x.reading(0, 0, 0), 0);
            b.is("the greatest", x.reading(99, 3, 5), 1);
            b.is("what can't be so is one, too", x.reading(0, 0, 5), 2);
        });
        b.says("UNKNOWN", () -> {
            for (int p : Bounds.beyond(0, 3)) {
                b.refused(Bounds::full, "place " + p, -1, x -> x.reading(0, p, 0));
                b.refused(Bounds::full, "ahead of outside, place " + p, -1, x -> x.reading(100, p, 6));
                b.refused(Bounds::fullOfReadings, "ahead of full, place " + p, -1, x -> x.reading(0, p, 0));
            }
            b.refused(Bounds::withoutRing, "no ring", -1, x -> x.reading(0, 0, 0));
            b.refused(Bounds::withoutRing, "no ring, ahead of outside", -1, x -> x.reading(-1, 0, 0));
        });
        b.says("OUTSIDE: t (0 .. 99), v (0 .. 5)", () -> {
            for (int t : Bounds.beyond(0, 99)) {
                b.refused(Bounds::full, "t " + t, -2, x -> x.reading(t, 0, 0));
                b.refused(Bounds::fullOfReadings, "ahead of full, t " + t, -2, x -> x.reading(t, 0, 0));
            }
            for (int v : Bounds.beyond(0, 5)) {
                b.refused(Bounds::full, "v " + v, -2, x -> x.reading(0, 3, v));
                b.refused(Bounds::fullOfReadings, "ahead of full, v " + v, -2, x -> x.reading(0, 3, v));
                b.refused(Bounds::full, "both, v " + v, -2, x -> x.reading(100, 3, v));
            }
            b.is("the least are allowed", Bounds.full().reading(0, 0, 0), 2);
            b.is("the greatest are allowed", Bounds.full().reading(99, 3, 5), 2);
            b.is("5 of base 2 is allowed", Due.ringOf("r2;p0;p1").reading(0, 1, 5), 0);
        });
        b.says("FULL", () -> {
            b.refused(Bounds::fullOfReadings, "a ninth", -4, x -> x.reading(0, 0, 2));
            b.refused(Bounds::fullOfReadings, "the greatest", -4, x -> x.reading(99, 3, 5));
        });
    }

    private void back() {
        b.section("Promise 15");
        b.says("The last k READINGS (0 .. as many as there are) are taken back: how many are left", () -> {
            for (int there = 0; there <= 8; there++) {
                for (int k = 0; k <= there; k++) {
                    DifferRings x = Due.ringOf("r6;p0;p1");
                    for (int r = 0; r < there; r++) {
                        x.reading(0, 0, r % 6);
                    }
                    b.is(k + " of " + there, x.back(k), there - k);
                    b.is("left", x.many(4), there - k);
                    // The first alone wants 0, the first two are against one another.
                    b.is("by those left", x.firsts(0), there - k == 0 ? 63 : there - k == 1 ? 1 : 0);
                }
            }
            b.is("none without a ring", Bounds.withoutRing().back(0), 0);
        });
        b.says("OUTSIDE", () -> {
            for (int k : Bounds.beyond(0, 2)) {
                b.refused(Bounds::full, "of 2, " + k, -2, x -> x.back(k));
            }
            for (int k : Bounds.beyond(0, 8)) {
                b.refused(Bounds::fullOfReadings, "of 8, " + k, -2, x -> x.back(k));
            }
            for (int k : Bounds.beyond(0, 0)) {
                b.refused(Bounds::withoutRing, "without a ring, " + k, -2, x -> x.back(k));
                b.refused(() -> Due.ringOf(TEXT), "of none, " + k, -2, x -> x.back(k));
            }
        });
    }

    private void kindsAndFirsts() {
        b.section("Promise 16");
        b.says("KINDS, as a set", () -> {
            kindsBy(TEXT, new int[] {1, 0, 3}, 1, 7, 7, 7, -1);
            kindsBy(TEXT, new int[0], 7, 7, 7, 7, -1);
            for (int p = 0; p < 4; p++) {
                int place = p;
                b.refused(Bounds::full, "changes nothing, " + p, Bounds.full().kinds(p), x -> x.kinds(place));
            }
        });
        b.says("UNKNOWN", () -> {
            for (int p : Bounds.beyond(0, 3)) {
                b.refused(Bounds::full, "place " + p, -1, x -> x.kinds(p));
            }
            b.refused(Bounds::withoutRing, "no ring", -1, x -> x.kinds(0));
        });
        b.section("Promise 17");
        b.says("FIRSTS, as a set", () -> {
            firstsBy(TEXT, new int[] {1, 0, 3}, 16, 2, 31, 31, -1);
            firstsBy(TEXT, new int[0], 31, 31, 31, 31, -1);
            for (int p = 0; p < 4; p++) {
                int place = p;
                b.refused(Bounds::full, "changes nothing, " + p, Bounds.full().firsts(p), x -> x.firsts(place));
            }
        });
        b.says("UNKNOWN", () -> {
            for (int p : Bounds.beyond(0, 3)) {
                b.refused(Bounds::full, "place " + p, -1, x -> x.firsts(p));
            }
            b.refused(Bounds::withoutRing, "no ring", -1, x -> x.firsts(0));
        });
    }

    private void odds() {
        b.section("Promise 18");
        b.says("ODDS of t (0 .. 99), v (0 .. 5; which 0 the upper, 1 the lower number)", () -> {
            share(TEXT, 0, 2, 0, 33, 125);
            share(TEXT, 0, 0, 4, 1, 5);
            share(TEXT, 0, 0, 5, 0, 1);
            share(TEXT, 3, 99, 5, 0, 1);
            share("r2;p0;p1", 1, 99, 0, 1, 1);
            share("r6;p0;p1;p2;p3;p4", 4, 0, 5, 1, 6);
            DifferRings x = Due.ringOf(TEXT);
            long together = 0;
            for (int v = 0; v <= 5; v++) {
                together += x.odds(2, 99, v, 0) * (625 / x.odds(2, 99, v, 1));
            }
            b.is("all shares behind 99 together", together, 625);
            b.is("back to 0", x.odds(0, 0, 1, 1), 5);
            b.is("on to 5", x.odds(0, 5, 0, 0), 9);
            b.is("once more 5", x.odds(0, 5, 0, 1), 25);
            b.refused(Bounds::full, "changes nothing", 33, y -> y.odds(0, 2, 0, 0));
        });
        b.says("LOST: UNKNOWN", () -> {
            for (int p : Bounds.beyond(0, 3)) {
                b.refused(Bounds::full, "place " + p, Bounds.LOST, x -> x.odds(p, 0, 0, 0));
                b.refused(Bounds::full, "and outside, place " + p, Bounds.LOST, x -> x.odds(p, -1, 6, 2));
            }
            b.refused(Bounds::withoutRing, "no ring", Bounds.LOST, x -> x.odds(0, 0, 0, 0));
        });
        b.says("OUTSIDE", () -> {
            for (int t : Bounds.beyond(0, 99)) {
                b.refused(Bounds::full, "t " + t, Bounds.LOST, x -> x.odds(0, t, 0, 0));
            }
            for (int v : Bounds.beyond(0, 5)) {
                b.refused(Bounds::full, "v " + v, Bounds.LOST, x -> x.odds(0, 0, v, 1));
            }
            for (int which : Bounds.beyond(0, 1)) {
                b.refused(Bounds::full, "which " + which, Bounds.LOST, x -> x.odds(0, 0, 0, which));
            }
        });
    }
}
