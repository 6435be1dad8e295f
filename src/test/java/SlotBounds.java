/** Promises 64 to 66: slots, their rows, what is written and pasted. */
final class SlotBounds {
    private static final int NONE = DaughtersGate.NONE;
    private static final int MIN = Integer.MIN_VALUE;
    private static final int MAX = Integer.MAX_VALUE;
    private final Sentences s;

    SlotBounds(Sentences s) {
        this.s = s;
    }

    /** What the funds are behind one night in which a gate (or NONE) is broken: what tells numbers of a row apart. */
    private static int told(long number) {
        return Due.fill(Due.with(Probe.READER), 0, 3, number).funds(0);
    }

    /** The numbers of a slot's row, each by what it tells; the object needs the reader's shire, and slot 3 is used. */
    private void has(String when, DaughtersGate x, int slot, int width, long... numbers) {
        for (int i = 0; i < numbers.length; i++) {
            x.row(3, width, 1);
            s.is(when + ": paste of number " + i, x.paste(slot, i, 3, 0, 1), 0);
            s.is(when + ": number " + i, x.funds(3), told(numbers[i]));
        }
        x.row(3, width, 1);
        s.is(when + ": there are no more", x.paste(slot, numbers.length, 3, 0, 1), -7);
    }

    private static DaughtersGate reader() {
        return Due.with(Probe.READER);
    }

    private void row() {
        s.of(64, "A SLOT (0 .. 3) has a row of n numbers of a WIDTH, all 0", () -> {
            java.util.Set<Integer> apart = new java.util.HashSet<>();
            for (int g = NONE; g < 8; g++) {
                apart.add(told(g));
            }
            s.is("gates that the reader tells apart", apart.size(), 9);
            for (int slot = 0; slot < 3; slot++) {
                for (int width = 0; width < 4; width++) {
                    DaughtersGate x = reader();
                    s.is("row(" + slot + ", " + width + ", 3)", x.row(slot, width, 3), 0);
                    has("width " + width, x, slot, width, 0, 0, 0);
                }
            }
            DaughtersGate x = reader();
            s.is("row(3, 0, 0)", x.row(3, 0, 0), 0);
            s.is("the empty row", x.write(3, 0, 0), -7);
            s.is("row(3, 0, 60)", x.row(3, 0, 60), 0);
            s.is("the full row", x.write(3, 59, 0), 0);
            s.is("beyond the full row", x.write(3, 60, 0), -7);
            s.is("count(9)", x.count(9), 1);
        });
        s.of(64, "(in place of another one): 0", () -> {
            DaughtersGate x = Due.fill(reader(), 0, 0, 1, 2, 3);
            s.is("row(0, 0, 2)", x.row(0, 0, 2), 0);
            has("a shorter one", x, 0, 0, 0, 0);
            Due.fill(x, 0, 0, 5, 5);
            s.is("row(0, 3, 4)", x.row(0, 3, 4), 0);
            has("a longer and wider one", x, 0, 3, 0, 0, 0, 0);
            s.is("row(0, 1, 0)", x.row(0, 1, 0), 0);
            has("an empty one", x, 0, 1);
            s.is("count(9)", x.count(9), 2);
        });
        s.of(64, "-2: there is no such SLOT", () -> {
            for (int slot : new int[] {-1, 4, 5, MIN, MAX}) {
                s.refused("row(" + slot + ", 0, 1)", Setups::busy, x -> x.row(slot, 0, 1), -2);
                s.is("n is below 0, too", Setups.busy().row(slot, 0, -1), -2);
            }
        });
        s.of(64, "or WIDTH (0 .. 3)", () -> {
            for (int width : new int[] {-1, 4, 5, MIN, MAX}) {
                s.refused("row(0, " + width + ", 1)", Setups::busy, x -> x.row(0, width, 1), -2);
                s.is("n is below 0, too", Setups.busy().row(0, width, -1), -2);
            }
            for (int width = 0; width < 4; width++) {
                s.is("WIDTH " + width, new DaughtersGate().row(0, width, 1), 0);
            }
        });
        s.of(64, "or n is above 60", () -> {
            for (int n : new int[] {61, 62, 1000, MAX}) {
                s.refused("row(0, 0, " + n + ")", Setups::busy, x -> x.row(0, 0, n), -2);
                s.refused("row(3, 3, " + n + ")", Setups::busy, x -> x.row(3, 3, n), -2);
            }
            s.is("60", new DaughtersGate().row(0, 0, 60), 0);
        });
        s.of(64, "-3, and the SLOT stays: n is below 0", () -> {
            for (int n : new int[] {-1, -2, MIN}) {
                s.refused("row(0, 3, " + n + ")", Setups::busy, x -> x.row(0, 3, n), -3);
                s.refused("row(3, 0, " + n + ")", Setups::busy, x -> x.row(3, 0, n), -3);
            }
            s.is("0", new DaughtersGate().row(0, 0, 0), 0);
        });
    }

    private void write() {
        s.of(65, "Number i of the SLOT's row is v, cut to its WIDTH: 0", () -> {
            for (int width = 0; width < 4; width++) {
                DaughtersGate x = Due.fill(reader(), 0, width, 1, 2, 3);
                s.is("write(0, 0, 7)", x.write(0, 0, 7), 0);
                has("the first", x, 0, width, 7, 2, 3);
                s.is("write(0, 2, NONE)", x.write(0, 2, NONE), 0);
                has("the last", x, 0, width, 7, 2, NONE);
            }
            // What is kept of numbers at the ends of each width: what is cut off does not tell.
            for (int width = 0; width < 3; width++) {
                long one = 1L << (8 << width);
                long[][] cuts = {{one + 5, 5}, {one - 1, NONE}, {5 - one, 5}, {-one - 1, NONE}, {one, 0}, {-one, 0}, {one / 2, 99}, {-one / 2, 99},
                    {one / 2 - 1, 99}, {Long.MIN_VALUE, 0}, {Long.MAX_VALUE, NONE}, {Long.MIN_VALUE + 6, 6}};
                for (long[] cut : cuts) {
                    DaughtersGate x = reader();
                    x.row(0, width, 1);
                    s.is("write(0, 0, " + cut[0] + ")", x.write(0, 0, cut[0]), 0);
                    s.is(cut[0] + " by WIDTH " + width, x.funds(0), told(cut[1]));
                }
            }
            for (long whole : new long[] {4294967296L, 4294967295L, -4294967296L, Long.MIN_VALUE, Long.MAX_VALUE, 1L << 56}) {
                DaughtersGate x = reader();
                x.row(0, 3, 1);
                s.is("write(0, 0, " + whole + ")", x.write(0, 0, whole), 0);
                s.is(whole + " is whole", x.funds(0), -2);
            }
            DaughtersGate x = new DaughtersGate();
            x.row(0, 0, 60);
            s.is("write(0, 59, 1)", x.write(0, 59, 1), 0);
        });
        s.of(65, "-2: there is no such SLOT", () -> {
            for (int slot : new int[] {-1, 4, 5, MIN, MAX}) {
                s.refused("write(" + slot + ", 0, 1)", Setups::busy, x -> x.write(slot, 0, 1), -2);
                s.is("no such number, too", Setups.busy().write(slot, -1, 1), -2);
            }
        });
        s.of(65, "-6: it has nothing", () -> {
            s.refused("write(3, 0, 1)", Setups::busy, x -> x.write(3, 0, 1), -6);
            s.refused("write(3, -1, 1)", Setups::busy, x -> x.write(3, -1, 1), -6);
            s.refused("write(3, 60, 1)", Setups::busy, x -> x.write(3, 60, 1), -6);
        });
        s.of(65, "-7: there is no such number", () -> {
            for (int i : new int[] {-1, 3, 4, 59, 60, MIN, MAX}) {
                s.refused("write(0, " + i + ", 1)", Setups::busy, x -> x.write(0, i, 1), -7);
            }
            DaughtersGate x = new DaughtersGate();
            x.row(1, 2, 0);
            s.is("of an empty row", x.write(1, 0, 1), -7);
            x.row(1, 2, 60);
            s.is("of a full row", x.write(1, 60, 1), -7);
        });
    }

    private void paste() {
        s.of(66, "So many numbers of a SLOT's row, from one on, are put to another one's", () -> {
            for (int width = 0; width < 4; width++) {
                DaughtersGate x = Due.fill(Due.fill(reader(), 0, width, 1, 2, 3, 4), 1, width, 5, 6, 7);
                s.is("paste(0, 1, 1, 1, 2)", x.paste(0, 1, 1, 1, 2), 0);
                has("where they are put", x, 1, width, 5, 2, 3);
                has("where they are from", x, 0, width, 1, 2, 3, 4);
                s.is("paste(0, 3, 1, 2, 1): the last ones", x.paste(0, 3, 1, 2, 1), 0);
                has("the last", x, 1, width, 5, 2, 4);
                s.is("paste(1, 0, 0, 0, 3): the whole", x.paste(1, 0, 0, 0, 3), 0);
                has("the whole", x, 0, width, 5, 2, 4, 4);
            }
            s.alike("paste of none", Setups::busy, x -> x.paste(0, 0, 0, 1, 0));
            s.is("none of them", Setups.busy().paste(0, 0, 0, 1, 0), 0);
            s.is("none at the end", Setups.busy().paste(0, 3, 0, 3, 0), 0);
            DaughtersGate x = new DaughtersGate();
            x.row(0, 0, 60);
            x.row(1, 0, 60);
            s.is("60", x.paste(0, 0, 1, 0, 60), 0);
            s.is("61", x.paste(0, 0, 1, 0, 61), -7);
            x.row(2, 0, 0);
            s.is("none of the empty row", x.paste(2, 0, 2, 0, 0), 0);
        });
        s.of(66, "(or its own)", () -> {
            DaughtersGate x = Due.fill(reader(), 0, 1, 1, 2, 3, 4);
            s.is("paste(0, 0, 0, 3, 1)", x.paste(0, 0, 0, 3, 1), 0);
            has("apart", x, 0, 1, 1, 2, 3, 1);
            s.is("paste(0, 0, 0, 0, 4)", x.paste(0, 0, 0, 0, 4), 0);
            has("itself", x, 0, 1, 1, 2, 3, 1);
        });
        s.of(66, ", from one on, as they were: 0", () -> {
            DaughtersGate x = Due.fill(reader(), 0, 2, 1, 2, 3, 4);
            s.is("upwards", x.paste(0, 0, 0, 1, 3), 0);
            has("upwards", x, 0, 2, 1, 1, 2, 3);
            DaughtersGate y = Due.fill(reader(), 0, 2, 1, 2, 3, 4);
            s.is("downwards", y.paste(0, 1, 0, 0, 3), 0);
            has("downwards", y, 0, 2, 2, 3, 4, 4);
            DaughtersGate z = Due.fill(Due.fill(reader(), 0, 0, NONE, 7), 1, 0, 0, 0);
            z.paste(0, 0, 1, 0, 2);
            has("NONE stays NONE", z, 1, 0, NONE, 7);
            z.write(0, 0, 3);
            has("what is written then is not pasted", z, 1, 0, NONE, 7);
        });
        s.of(66, "-2: there is no such SLOT", () -> {
            for (int slot : new int[] {-1, 4, 5, MIN, MAX}) {
                s.refused("from " + slot, Setups::busy, x -> x.paste(slot, 0, 0, 0, 1), -2);
                s.refused("to " + slot, Setups::busy, x -> x.paste(0, 0, slot, 0, 1), -2);
                s.is("from one that has nothing", Setups.busy().paste(3, 0, slot, 0, 1), -2);
                s.is("to one that has nothing", Setups.busy().paste(slot, 0, 3, 0, 1), -2);
                s.is("beyond its row", Setups.busy().paste(0, -1, slot, 0, 1), -2);
            }
        });
        s.of(66, "-6: one has nothing", () -> {
            s.refused("paste(3, 0, 0, 0, 1)", Setups::busy, x -> x.paste(3, 0, 0, 0, 1), -6);
            s.refused("paste(0, 0, 3, 0, 1)", Setups::busy, x -> x.paste(0, 0, 3, 0, 1), -6);
            s.is("both", Setups.busy().paste(3, 0, 3, 0, 0), -6);
            s.is("ahead of -7", Setups.busy().paste(3, -1, 0, -1, -1), -6);
            s.is("ahead of -7, to", Setups.busy().paste(0, 9, 3, 0, 1), -6);
        });
        s.of(66, "-8: they are not of one WIDTH", () -> {
            s.refused("paste(0, 0, 1, 0, 1)", Setups::busy, x -> x.paste(0, 0, 1, 0, 1), -8);
            s.refused("paste(2, 0, 0, 0, 1)", Setups::busy, x -> x.paste(2, 0, 0, 0, 1), -8);
            s.is("none of them", Setups.busy().paste(0, 0, 1, 0, 0), -8);
            s.is("ahead of -7", Setups.busy().paste(0, -1, 1, 99, -5), -8);
            for (int width = 0; width < 4; width++) {
                for (int other = 0; other < 4; other++) {
                    DaughtersGate x = new DaughtersGate();
                    x.row(0, width, 1);
                    x.row(1, other, 1);
                    s.is("from WIDTH " + width + " to " + other, x.paste(0, 0, 1, 0, 1), width == other ? 0 : -8);
                }
            }
        });
        beyond();
    }

    /** Slots 0 (four numbers) and 1 (three), of one width. */
    private static DaughtersGate pair() {
        return Due.fill(Due.fill(Setups.full(), 0, 0, 1, 2, 3, 4), 1, 0, 5, 6, 0);
    }

    private void beyond() {
        s.of(66, "-7, and nothing happens: some are beyond their rows", () -> {
            int[][] calls = {{0, 0, 5}, {1, 0, 4}, {4, 0, 1}, {5, 0, 1}, {2, 0, 3}, {0, 0, 4}, {0, 1, 3}, {0, 2, 2}, {0, 3, 1}, {0, 4, 1},
                {MAX, 0, 1}, {0, MAX, 1}, {0, 0, MAX}, {1, 0, MAX}, {0, 1, MAX}, {MAX, 0, MAX}, {0, MAX, MAX}, {MAX, MAX, MAX}, {MAX, MAX, 2}};
            for (int[] c : calls) {
                s.refused("paste(0, " + c[0] + ", 1, " + c[1] + ", " + c[2] + ")", SlotBounds::pair, x -> x.paste(0, c[0], 1, c[1], c[2]), -7);
            }
            s.refused("its own", SlotBounds::pair, x -> x.paste(0, 0, 0, 1, 4), -7);
            s.refused("its own, from", SlotBounds::pair, x -> x.paste(0, 1, 0, 0, 4), -7);
            s.is("the most", pair().paste(0, 1, 1, 0, 3), 0);
        });
        s.of(66, "or a place or n is below 0", () -> {
            int[][] calls = {{-1, 0, 1}, {0, -1, 1}, {0, 0, -1}, {1, 1, -1}, {-1, 0, 0}, {0, -1, 0}, {MIN, 0, 1}, {0, MIN, 1}, {0, 0, MIN},
                {MIN, MIN, MIN}, {-1, -1, -1}, {MIN, 0, MAX}, {0, MIN, MAX}, {MAX, 0, MIN}, {0, MAX, MIN}, {-1, 0, 2}, {4, 3, -1}};
            for (int[] c : calls) {
                s.refused("paste(0, " + c[0] + ", 1, " + c[1] + ", " + c[2] + ")", SlotBounds::pair, x -> x.paste(0, c[0], 1, c[1], c[2]), -7);
            }
        });
    }

    void all() {
        row();
        write();
        paste();
    }
}
