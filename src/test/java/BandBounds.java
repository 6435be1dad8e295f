import java.util.function.ToIntBiFunction;

/** Promises 49 to 56: bands that do not tell, rewards, who it was. */
final class BandBounds {
    private static final int NONE = DaughtersGate.NONE;
    private static final int MIN = Integer.MIN_VALUE;
    private static final int MAX = Integer.MAX_VALUE;
    private final Sentences s;

    BandBounds(Sentences s) {
        this.s = s;
    }

    private static DaughtersGate withOdds(int... odds) {
        StringBuilder text = new StringBuilder(Land.head(2));
        for (int o : odds) {
            text.append(Land.farmer(0, 1, 1, 1, o));
        }
        return Due.with(text.toString());
    }

    private void chance(DaughtersGate x, int set, long above, long below) {
        s.is("band(" + set + ", 0)", x.band(set, 0), above);
        s.is("band(" + set + ", 1)", x.band(set, 1), below);
    }

    private void band() {
        s.of(49, "BAND: the chance that none of a set of FARMERS (bits) informs (each by his odds)", () -> {
            DaughtersGate x = withOdds(0, 100, 10, 99, 1, 50);
            chance(x, 0, 1, 1);
            chance(x, 1, 1, 1);
            chance(x, 2, 0, 1);
            chance(x, 4, 9, 10);
            chance(x, 8, 1, 100);
            chance(x, 16, 99, 100);
            chance(x, 32, 1, 2);
            chance(x, 36, 9, 20);
            chance(x, 63, 0, 1);
            chance(withOdds(1, 1, 1, 1, 1, 1), 63, 941480149401L, 1000000000000L);
            chance(withOdds(99, 99, 99, 99, 99, 99), 63, 1, 1000000000000L);
            chance(withOdds(0, 0, 0, 0, 0, 0), 63, 1, 1);
            chance(Setups.empty(), 0, 1, 1);
        });
        s.of(49, "above (what 0), below (1)", () -> {
            DaughtersGate x = withOdds(25);
            s.is("what 0", x.band(1, 0), 3);
            s.is("what 1", x.band(1, 1), 4);
        });
        s.of(49, "-2: there are none such", () -> {
            DaughtersGate x = withOdds(25, 50);
            s.noneSuch("the set", 4, set -> (int) x.band(set, 0));
            s.noneSuch("what", 2, what -> (int) x.band(3, what));
            s.is("all of the set", x.band(3, 0), 3);
            s.is("one of it is none", x.band(5, 0), -2);
            s.is("64 of six", Setups.full().band(64, 0), -2);
            s.is("nobody lives there", Setups.empty().band(1, 0), -2);
        });
        s.of(49, "no SHIRE", () -> s.refused("band(0, 0)", Setups::bare, x -> x.band(0, 0), -2));
    }

    private void most() {
        s.of(50, "The most FARMERS of whom none informs with n (0 .. 100) in a hundred at least", () -> {
            DaughtersGate x = withOdds(10, 50);
            int[][] due = {{0, 2}, {1, 2}, {45, 2}, {46, 1}, {90, 1}, {91, 0}, {100, 0}};
            for (int[] d : due) {
                s.is("most(" + d[0] + ")", x.most(d[0]), d[1]);
            }
            DaughtersGate y = withOdds(100, 0, 100, 0, 100, 100);
            s.is("most(0) has all", y.most(0), 6);
            s.is("most(1)", y.most(1), 2);
            s.is("most(100)", y.most(100), 2);
            // 99 / 100 to the third is 97.0299, to the fourth 96.059601.
            DaughtersGate z = withOdds(1, 1, 1, 1);
            s.is("most(97)", z.most(97), 3);
            s.is("most(96)", z.most(96), 4);
            s.is("most(98)", z.most(98), 2);
            s.is("most(99)", z.most(99), 1);
            s.is("nobody lives there", Setups.empty().most(100), 0);
        });
        s.of(50, "-2: there is no such n", () -> {
            DaughtersGate x = withOdds(10, 50);
            s.noneSuch("most", 101, x::most);
        });
        s.of(50, "no SHIRE", () -> s.refused("most(0)", Setups::bare, x -> x.most(0), -2));
        s.of(51, "Which, as bits: the least set of so many", () -> {
            DaughtersGate x = withOdds(10, 50);
            int[][] due = {{0, 3}, {45, 3}, {46, 1}, {90, 1}, {91, 0}, {100, 0}};
            for (int[] d : due) {
                s.is("bands(" + d[0] + ")", x.bands(d[0]), d[1]);
            }
            s.is("all", withOdds(100, 100, 100, 100, 100, 100).bands(0), 63);
            s.is("two of four", withOdds(1, 1, 1, 1).bands(98), 3);
            s.is("not the first", withOdds(100, 0, 100, 0, 100, 100).bands(100), 10);
            // 0 goes with 3 alone, but as bits 1 and 2 are less; three are too many.
            s.is("1 and 2, not 0 and 3", withOdds(35, 22, 22, 5).bands(60), 6);
            s.is("nobody lives there", Setups.empty().bands(0), 0);
        });
        s.of(51, "-2 likewise", () -> {
            DaughtersGate x = withOdds(10, 50);
            s.noneSuch("bands", 101, x::bands);
            s.refused("bands(0), no SHIRE", Setups::bare, y -> y.bands(0), -2);
        });
    }

    /** FARMER 0 pays 5 a day, 1 has no WAY, 2 pays 45. */
    private static DaughtersGate payers() {
        return Due.with(Land.head(3) + Land.gate(0, 1, 1, 5) + Land.farmer(0, 1, 1) + Land.farmer(0, 2, 9) + Land.farmer(1, 0, 9) + Land.dragoons(2, 0));
    }

    private void inform() {
        s.of(52, "INFORM: FARMERS who PAY less in n (0 .. 99) days than a reward (0 .. 9,999), as bits", () -> {
            DaughtersGate x = payers();
            int[][] due = {{0, 0, 0}, {1, 0, 7}, {9999, 0, 7}, {0, 1, 0}, {5, 1, 2}, {6, 1, 3}, {45, 1, 3}, {46, 1, 7},
                {495, 99, 2}, {496, 99, 3}, {4455, 99, 3}, {4456, 99, 7}, {9999, 99, 7}};
            for (int[] d : due) {
                s.is("inform(" + d[0] + ", " + d[1] + ")", x.inform(d[0], d[1]), d[2]);
            }
            x.night(0);
            s.is("now", x.inform(1, 99), 7);
            DaughtersGate y = Due.with(Land.chain() + Land.farmer(0, 5, 9).repeat(6));
            s.is("the most there can be", y.inform(9999, 99), 0);
            s.is("8,910 in two days", y.inform(8910, 2), 0);
            s.is("8,911", y.inform(8911, 2), 63);
            s.is("nobody lives there", Setups.empty().inform(9999, 0), 0);
        });
        s.of(52, "(one without a WAY PAYS nothing)", () -> {
            s.is("reward 0", payers().inform(0, 99), 0);
            s.is("reward 1", payers().inform(1, 99), 2);
        });
        s.of(52, "-2: there are none such", () -> {
            DaughtersGate x = payers();
            s.noneSuch("the reward", 10000, r -> x.inform(r, 1));
            s.noneSuch("n", 100, n -> x.inform(1, n));
        });
        s.of(52, "no SHIRE", () -> s.refused("inform(0, 0)", Setups::bare, x -> x.inform(0, 0), -2));
    }

    private void dear() {
        String dearest = Land.chain() + Land.farmer(0, 5, 9);
        s.of(53, "The least reward by which one would", () -> {
            s.is("one without a WAY", payers().dear(99), 1);
            DaughtersGate x = Due.with(Land.head(3) + Land.gate(0, 1, 1, 5) + Land.farmer(0, 1, 2) + Land.farmer(1, 0, 1));
            s.is("dear(0)", x.dear(0), 1);
            s.is("dear(1)", x.dear(1), 6);
            s.is("dear(99)", x.dear(99), 496);
            s.is("by it one would", x.inform(496, 99), 2);
            s.is("by less none would", x.inform(495, 99), 0);
            x.times(1, 0);
            s.is("one who never goes", x.dear(99), 1);
        });
        s.of(53, "NONE: above 9,999", () -> {
            s.is("8,911", Due.with(dearest).dear(2), 8911);
            s.is("13,366", Due.with(dearest).dear(3), NONE);
            s.is("441,046", Due.with(dearest).dear(99), NONE);
            // 9,999 in 99 days of 101 each: the reward would be 10,000; in 98 days it is 9,899.
            DaughtersGate x = Due.with(Land.head(3) + Land.gate(0, 1, 1, 99) + Land.gate(1, 2, 1, 2) + Land.farmer(0, 2, 1));
            s.is("10,000", x.dear(99), NONE);
            s.is("9,899", x.dear(98), 9899);
            // 9,996 in 28 days of 357 each: no sum of tolls comes nearer to 9,998.
            DaughtersGate y = Due.with(Land.head(2) + Land.gate(0, 1, 1, 51) + Land.farmer(0, 1, 7));
            s.is("9,997", y.dear(28), 9997);
        });
        s.of(53, "there are none", () -> {
            s.is("dear(0)", Setups.empty().dear(0), NONE);
            s.is("dear(99)", Setups.empty().dear(99), NONE);
        });
        s.of(53, "-2 likewise", () -> {
            DaughtersGate x = payers();
            s.noneSuch("dear", 100, x::dear);
            s.refused("dear(0), no SHIRE", Setups::bare, y -> y.dear(0), -2);
            s.noneSuch("dear of nobody", 100, Setups.empty()::dear);
        });
    }

    /** Gates 0 (0 to 1, 5 miles), 1 (1 to 2, 1 mile), 3 (4 to 5); road 2 (2 to 3, 6 miles); FARMERS 0 to 4 live at 0 to 4. */
    private static DaughtersGate homes(int walk) {
        StringBuilder text = new StringBuilder(Land.head(6, 0, 0, 999, walk));
        text.append(Land.gate(0, 1, 5, 1)).append(Land.gate(1, 2, 1, 1)).append(Land.road(2, 3, 6)).append(Land.gate(4, 5, 1, 1));
        for (int p = 0; p < 5; p++) {
            text.append(Land.farmer(p, 5, 0));
        }
        return Due.with(text.append(Land.dragoons(5, 0)).toString());
    }

    private void noSuchNumber(ToIntBiFunction<DaughtersGate, Integer> call) {
        for (long bad : new long[] {NONE, 2, 4, 8, -2, 127, -128, 256, 4294967296L, 4294967295L, -4294967296L, Long.MIN_VALUE, Long.MAX_VALUE}) {
            s.is("0 and " + bad, call.applyAsInt(Due.fill(homes(4), 0, 3, 0, bad), 0), -2);
            s.is("0, 3 and " + bad, call.applyAsInt(Due.fill(homes(4), 0, 3, 0, 3, bad), 0), -2);
        }
        s.is("the last GATE", call.applyAsInt(Due.fill(homes(4), 0, 3, 3), 0) == -2 ? 0 : 1, 1);
    }

    private void nothing(ToIntBiFunction<DaughtersGate, Integer> call) {
        s.refused("slot 3", Setups::busy, x -> call.applyAsInt(x, 3), -6);
        DaughtersGate x = Setups.busy();
        x.row(3, 0, 0);
        s.is("an empty row is not nothing", call.applyAsInt(x, 3) < -2 ? 0 : 1, 1);
    }

    private void noShire(ToIntBiFunction<DaughtersGate, Integer> call) {
        s.refused("slot 1", Setups::bare, x -> call.applyAsInt(x, 1), -2);
        s.is("slot 3, which has nothing", call.applyAsInt(Setups.bare(), 3), -2);
        s.is("slot 4", call.applyAsInt(Setups.bare(), 4), -2);
    }

    private void who() {
        s.of(54, "WHO: a SLOT's row of GATES: FARMERS who live no more miles than walk from an end of each, as bits", () -> {
            int[][] due = {{0, 3, 6, 16}, {4, 7, 6, 16}, {5, 7, 7, 16}, {6, 7, 15, 16}, {7, 15, 15, 16}, {60, 15, 15, 16}};
            for (int[] d : due) {
                DaughtersGate x = homes(d[0]);
                s.is("walk " + d[0] + ", gate 0", Due.fill(x, 0, 0, 0).who(0), d[1]);
                s.is("walk " + d[0] + ", gate 1", Due.fill(x, 1, 1, 1).who(1), d[2]);
                s.is("walk " + d[0] + ", gate 3", Due.fill(x, 2, 2, 3).who(2), d[3]);
                s.is("walk " + d[0] + ", gates 0 and 1", Due.fill(x, 3, 3, 0, 1).who(3), d[1] & d[2]);
            }
            DaughtersGate x = homes(4);
            s.is("none told: all", Due.fill(x, 0, 0).who(0), 31);
            s.is("nobody", Due.fill(x, 0, 0, 0, 3).who(0), 0);
            long[] most = new long[60];
            s.is("60 of gate 0", Due.fill(x, 0, 0, most).who(0), 7);
            most[59] = 1;
            s.is("the last is gate 1", Due.fill(x, 0, 0, most).who(0), 6);
            x.night(0);
            s.is("a broken one", Due.fill(x, 0, 0, 0).who(0), 7);
            s.is("nobody lives there", Due.fill(Due.with(Land.head(2)), 0, 0).who(0), 0);
        });
        s.of(54, "-2: there is no such SLOT", () -> s.noSuchSlot(DaughtersGate::who));
        s.of(54, "no SHIRE", () -> noShire(DaughtersGate::who));
        s.of(54, "a number is no ROAD with a GATE (asked last)", () -> noSuchNumber(DaughtersGate::who));
        s.of(54, "-6: it has nothing", () -> nothing(DaughtersGate::who));
    }

    private void watch() {
        s.of(55, "The GATE that leaves fewest of these at worst by whether he was there", () -> {
            DaughtersGate x = homes(4);
            // Of 0, 1, 2: gate 1 tells 0 from 1 and 2.
            s.is("by gate 0", Due.fill(x, 0, 0, 0).watch(0), 1);
            // At walk 0 gate 0 leaves 0 and 1, or 2, 3 and 4; gate 3 leaves 4, or four.
            s.is("of all", Due.fill(homes(0), 0, 0).watch(0), 0);
            x.night(1);
            s.is("it is broken", Due.fill(x, 0, 0, 0).watch(0), 1);
        });
        s.of(55, "if fewer than now", () -> {
            DaughtersGate x = homes(4);
            s.is("two whom none tells apart", Due.fill(x, 0, 0, 0, 1).watch(0), NONE);
            s.is("one", Due.fill(x, 0, 0, 3).watch(0), NONE);
            s.is("nobody", Due.fill(x, 0, 0, 0, 3).watch(0), NONE);
            s.is("three", Due.fill(x, 0, 0, 0).watch(0), 1);
        });
        s.of(55, "the first of several", () -> {
            // Of all five, gate 0 leaves 3 (0, 1, 2), gate 1 leaves 3 (0, 3, 4).
            s.is("of all", Due.fill(homes(4), 0, 0).watch(0), 0);
        });
        s.of(55, "NONE: none", () -> {
            s.is("no GATES", Due.fill(Due.with(Land.head(2) + Land.farmer(0, 1, 1) + Land.farmer(1, 0, 1)), 0, 0).watch(0), NONE);
            s.is("nobody lives there", Due.fill(Due.with(Land.head(2) + Land.gate(0, 1, 1, 1)), 0, 0).watch(0), NONE);
        });
        s.of(55, "-2, -6 likewise", () -> {
            s.noSuchSlot(DaughtersGate::watch);
            noShire(DaughtersGate::watch);
            noSuchNumber(DaughtersGate::watch);
            nothing(DaughtersGate::watch);
        });
        s.of(56, "How many it leaves at worst", () -> {
            s.is("of five", Due.fill(homes(4), 0, 0).leaves(0), 3);
            s.is("of three", Due.fill(homes(4), 0, 0, 0).leaves(0), 2);
            s.is("of two", Due.fill(homes(0), 0, 0, 0).leaves(0), 1);
        });
        s.of(56, "(as now without)", () -> {
            DaughtersGate x = homes(4);
            s.is("two", Due.fill(x, 0, 0, 0, 1).leaves(0), 2);
            s.is("one", Due.fill(x, 0, 0, 3).leaves(0), 1);
            s.is("nobody", Due.fill(x, 0, 0, 0, 3).leaves(0), 0);
        });
        s.of(56, "-2, -6 likewise", () -> {
            s.noSuchSlot(DaughtersGate::leaves);
            noShire(DaughtersGate::leaves);
            noSuchNumber(DaughtersGate::leaves);
            nothing(DaughtersGate::leaves);
        });
    }

    void all() {
        band();
        most();
        inform();
        dear();
        who();
        watch();
    }
}
