import java.util.function.ToIntBiFunction;

/** Promises 39 to 48: nights, the state now, acts taken back, how long the trust lasts, plans, rows that are judged. */
final class NightBounds {
    private static final int NONE = DaughtersGate.NONE;
    private static final int MIN = Integer.MIN_VALUE;
    private static final int MAX = Integer.MAX_VALUE;
    private final Sentences s;

    NightBounds(Sentences s) {
        this.s = s;
    }

    private void standing(String when, DaughtersGate x, int... due) {
        for (int what = 0; what < 5; what++) {
            s.is(when + ": now(" + what + ")", x.now(what), due[what]);
        }
    }

    /** Gates 0 and 3 are broken and too dear to be set up; from where the dragoons are gate 0 would be safe. */
    private static DaughtersGate twoBroken() {
        DaughtersGate x = Due.with(Setups.FULL.replace("builds 60", "builds 999"));
        x.night(0);
        x.night(3);
        return x;
    }

    private void night() {
        s.of(39, "A NIGHT (III) in which a GATE is broken", () -> {
            DaughtersGate x = Setups.trust(7, 2, 999);
            s.is("night(1)", x.night(1), 10);
            standing("behind it", x, 1, 15, 0, 2, 0);
            s.is("acts", x.count(6), 1);
            s.is("the last ROAD", Due.with(Probe.READER).night(7) >= 0 ? 1 : 0, 1);
        });
        s.of(39, "(NONE: none is)", () -> {
            DaughtersGate x = Setups.trust(7, 2, 999);
            s.is("night(NONE)", x.night(NONE), 15);
            standing("behind it", x, 1, 20, 0, 0, 0);
            s.is("no ROADS", Setups.empty().night(NONE), 0);
        });
        s.of(39, "what all PAY the next day", () -> {
            DaughtersGate x = Setups.trust(7, 0, 1);
            s.is("night(0)", x.night(0), 5);
            s.is("ahead of its setting up", x.night(NONE), 5);
            s.is("behind it", x.night(NONE), 15);
            s.is("if it gives up, too", Setups.trust(0, 999, 1).night(1), 10);
            s.is("the most there can be", Due.with(Land.chain() + Land.farmer(0, 5, 9).repeat(6)).night(NONE), 26730);
        });
        s.of(39, "-5: it does not stand", () -> {
            s.is("no dragoons are there", twoBroken().dragoons(), 3);
            s.refused("night(0)", NightBounds::twoBroken, x -> x.night(0), -5);
            s.refused("night(3)", NightBounds::twoBroken, x -> x.night(3), -5);
        });
        s.of(39, "is not SAFE", () -> {
            s.refused("night(2)", Setups::busy, x -> x.night(2), -5);
            s.refused("night(6)", Setups::busy, x -> x.night(6), -5);
            String land = Land.head(3) + Land.road(0, 1, 2) + Land.gate(1, 2, 1, 1);
            s.is("2 miles at pace 2", Due.with(land + Land.dragoons(0, 2)).night(1), -5);
            s.is("2 miles at pace 1", Due.with(land + Land.dragoons(0, 1)).night(1), 0);
        });
        s.of(39, "the TRUST gave up", () -> {
            s.refused("night(NONE)", Setups::fallen, x -> x.night(NONE), -5);
            s.refused("night(1)", Setups::fallen, x -> x.night(1), -5);
            s.refused("night(0)", Setups::fallen, x -> x.night(0), -5);
            DaughtersGate x = Setups.fallen();
            x.undo();
            s.is("taken back", x.night(1), 5);
        });
        s.of(39, "there were 40 acts", () -> {
            s.refused("night(NONE)", Setups::forty, x -> x.night(NONE), -5);
            s.refused("night(0)", Setups::forty, x -> x.night(0), -5);
            DaughtersGate x = Setups.forty();
            x.undo();
            s.is("the 40th", x.night(0), 0);
            s.is("the 41st", x.night(1), -5);
            x.anew();
            s.is("anew", x.night(0), 0);
        });
        s.of(39, "-2: there is none such", () -> {
            for (int g : new int[] {-2, 7, 8, 9, MIN, MAX}) {
                s.refused("night(" + g + ")", Setups::busy, x -> x.night(g), -2);
            }
            s.refused("night(NONE), no SHIRE", Setups::bare, x -> x.night(NONE), -2);
            s.refused("night(0), no SHIRE", Setups::bare, x -> x.night(0), -2);
            s.is("of a TRUST that gave up", Setups.fallen().night(2), -2);
            s.is("behind 40 acts", Setups.forty().night(2), -2);
        });
    }

    private void now() {
        s.of(40, "Now, what 0: NIGHTS that went by", () -> {
            s.is("none", Setups.full().now(0), 0);
            s.is("two", Setups.busy().now(0), 2);
            s.is("forty", Setups.forty().now(0), 40);
            s.is("in which it gave up", Setups.fallen().now(0), 1);
        });
        s.of(40, "1: what the TRUST has", () -> {
            s.is("at first", Setups.full().now(1), 500);
            s.is("the most it can have at first", Setups.trust(9999, 0, 1).now(1), 9999);
            s.is("nothing", Setups.empty().now(1), 0);
            s.is("behind 40", Setups.forty().now(1), 200);
            s.is("it gave up", Setups.fallen().now(1), 0);
        });
        s.of(40, "2: 1 if it gave up, else 0", () -> {
            s.is("it has not", Setups.busy().now(2), 0);
            s.is("it has nothing, but has not", Setups.empty().now(2), 0);
            s.is("it gave up", Setups.fallen().now(2), 1);
        });
        s.of(40, "3: GATES that are broken, as bits", () -> {
            s.is("none", Setups.full().now(3), 0);
            s.is("one", Setups.busy().now(3), 8);
            s.is("two", twoBroken().now(3), 9);
            DaughtersGate x = Due.with(Probe.READER.replace("builds 1", "builds 999").replaceAll("farmer[^;]*;", ""));
            x.night(7);
            s.is("the last", x.now(3), 128);
        });
        s.of(40, "4: how often GATES were set up again", () -> {
            s.is("never", Setups.full().now(4), 0);
            s.is("once", Setups.busy().now(4), 1);
            DaughtersGate x = five(9999, 0, 1);
            for (int i = 0; i < 20; i++) {
                x.night(i % 2);
                x.night(NONE);
            }
            s.is("each second night", x.now(4), 20);
            x.undo();
            s.is("one taken back", x.now(4), 19);
            x.anew();
            s.is("anew", x.now(4), 0);
        });
        s.of(40, "-2: there is no SHIRE", () -> {
            for (int what = 0; what < 5; what++) {
                s.is("now(" + what + ")", Setups.bare().now(what), -2);
            }
        });
        s.of(40, "no such what", () -> {
            DaughtersGate x = Setups.busy();
            s.noneSuch("now", 5, x::now);
        });
    }

    private void down() {
        s.of(41, "For how many NIGHTS a GATE is broken", () -> {
            s.is("one", Setups.busy().down(3), 1);
            s.is("two", twoBroken().down(0), 2);
            s.is("in which it gave up", Setups.fallen().down(0), 1);
            DaughtersGate x = Setups.trust(0, 0, 999);
            x.night(0);
            for (int i = 1; i < 40; i++) {
                s.is("behind " + i, x.down(0), i);
                x.night(NONE);
            }
            s.is("forty", x.down(0), 40);
        });
        s.of(41, "NONE: it stands", () -> {
            DaughtersGate x = Setups.busy();
            s.is("always", x.down(1), NONE);
            s.is("set up again", x.down(0), NONE);
            DaughtersGate y = Setups.busy();
            y.undo();
            s.is("not yet", y.down(0), 1);
            y.undo();
            s.is("taken back", y.down(0), NONE);
        });
        s.of(41, "-2: there is none such", () -> {
            DaughtersGate x = Setups.busy();
            s.noneSuch("down", 8, x::down);
            s.is("no GATE", x.down(7), -2);
            s.is("no SHIRE", Setups.bare().down(0), -2);
        });
    }

    private void back() {
        s.of(42, "The latest act is taken back: how many there are", () -> {
            s.is("of forty", Setups.forty().undo(), 39);
            DaughtersGate x = Setups.trust(7, 0, 1);
            x.night(0);
            x.night(NONE);
            standing("two", x, 2, 16, 0, 0, 1);
            s.is("undo()", x.undo(), 1);
            standing("one", x, 1, 12, 0, 1, 0);
            s.is("dragoons()", x.dragoons(), 1);
            s.is("undo() again", x.undo(), 0);
            standing("none", x, 0, 7, 0, 0, 0);
            s.is("dragoons() then", x.dragoons(), 3);
            s.is("of one that gave up", Setups.fallen().undo(), 0);
            DaughtersGate y = Setups.fallen();
            y.undo();
            s.is("it has not given up", y.now(2), 0);
        });
        s.of(42, "-5: there is none", () -> {
            s.refused("undo()", Setups::full, DaughtersGate::undo, -5);
            DaughtersGate x = Setups.busy();
            x.anew();
            s.is("behind anew()", x.undo(), -5);
            s.is("rate is no act", Setups.full().rate(0, 9) + x.undo(), 0);
        });
        s.of(42, "-2: there is no SHIRE", () -> s.refused("undo()", Setups::bare, DaughtersGate::undo, -2));
        s.of(43, "All are: how many there were", () -> {
            s.is("of forty", Setups.forty().anew(), 40);
            s.is("of none", Setups.full().anew(), 0);
            DaughtersGate x = Setups.busy();
            s.is("of two", x.anew(), 2);
            standing("none", x, 0, 500, 0, 0, 0);
            s.is("acts", x.count(6), 0);
            s.is("dragoons()", x.dragoons(), 5);
            s.is("gates()", x.gates(), 127);
            s.alike("anew() of none", Setups::full, DaughtersGate::anew);
            DaughtersGate y = Setups.full();
            y.rate(0, 99);
            y.times(0, 9);
            y.night(0);
            y.anew();
            s.is("the toll is no act", y.road(0, 3), 99);
            s.is("nor are the times", y.farmer(0, 2), 9);
        });
        s.of(43, "-2 likewise", () -> s.refused("anew()", Setups::bare, DaughtersGate::anew, -2));
    }

    private void lasts() {
        s.of(44, "LASTS: behind how many NIGHTS (0 .. 60", () -> {
            int[][] due = {{0, 1}, {4, 1}, {5, 2}, {9, 2}, {10, 3}, {294, 59}, {295, 60}, {299, 60}};
            for (int[] d : due) {
                DaughtersGate x = Due.with(Land.head(2, d[0], 5, 1, 0));
                s.is("has " + d[0], x.lasts(), d[1]);
                s.is("no NIGHT went by", x.now(0), 0);
            }
        });
        s.of(44, "0: it did)", () -> s.is("lasts()", Setups.fallen().lasts(), 0));
        s.of(44, "the TRUST gives up, if no GATE is broken any more", () -> {
            // Without gate 0 it loses 5 a night; with 21 it can set it up behind the second one, and lasts.
            DaughtersGate x = Setups.trust(21, 10, 11);
            x.night(0);
            s.is("it is set up again", x.lasts(), NONE);
            DaughtersGate y = Setups.trust(21, 10, 12);
            y.night(0);
            s.is("it is not", y.lasts(), 4);
            s.is("none is broken", Setups.trust(0, 15, 1).lasts(), NONE);
            s.is("it owes one more", Setups.trust(0, 16, 1).lasts(), 1);
        });
        s.of(44, "NONE: not in so many", () -> {
            s.is("in 61", Due.with(Land.head(2, 300, 5, 1, 0)).lasts(), NONE);
            s.is("never", Setups.empty().lasts(), NONE);
            DaughtersGate x = Due.with(Land.head(2, 300, 5, 1, 0));
            x.night(NONE);
            s.is("from now on", x.lasts(), 60);
        });
        s.of(44, "-2 likewise", () -> s.refused("lasts()", Setups::bare, DaughtersGate::lasts, -2));
    }

    /** Two gates of 5 a day each, 0 to 1 and 2 to 3; dragoons where no road goes. */
    private static DaughtersGate five(int has, int owes, int builds) {
        return Due.with(Land.head(5, has, owes, builds, 0) + Land.gate(0, 1, 1, 5) + Land.gate(2, 3, 1, 5)
            + Land.farmer(0, 1, 1) + Land.farmer(2, 3, 1) + Land.dragoons(4, 0));
    }

    /** What was answered holds till something is another one. */
    private void asked() {
        DaughtersGate x = five(8, 10, 999);
        x.image(0);
        s.is("fewest()", x.fewest(), 2);
        x.night(0);
        s.is("behind a night", x.fewest(), 1);
        x.undo();
        s.is("taken back", x.fewest(), 2);
        x.rate(1, 1);
        s.is("of another toll", x.fewest(), 1);
        x.rate(1, 5);
        s.is("of the first toll", x.fewest(), 2);
        x.times(1, 0);
        s.is("of other times", x.fewest(), 1);
        x.back(0);
        s.is("gone back", x.fewest(), 2);
        x.night(1);
        x.fewest();
        x.anew();
        s.is("anew", x.fewest(), 2);
        Due.tape(x, Land.head(2, 0, 1, 1, 0)).shire();
        s.is("of another shire", x.fewest(), 1);
    }

    private void plan(DaughtersGate x, int... due) {
        s.is("fewest()", x.fewest(), due.length);
        for (int i = 0; i < due.length; i++) {
            s.is("plan(" + i + ")", x.plan(i), due[i]);
        }
        s.is("plan(" + due.length + ")", x.plan(due.length), -3);
        s.is("plan(-1)", x.plan(-1), -3);
    }

    private void fewest() {
        s.of(45, "FEWEST: the fewest NIGHTS (0 .. 4) by which it gives up", () -> {
            s.is("0", Setups.fallen().fewest(), 0);
            int[][] due = {{0, 1}, {4, 1}, {5, 2}, {10, 3}, {15, 4}, {19, 4}, {20, NONE}};
            for (int[] d : due) {
                s.is("has " + d[0], Due.with(Land.head(2, d[0], 5, 1, 0)).fewest(), d[1]);
            }
            DaughtersGate x = Due.with(Land.head(2, 20, 5, 1, 0));
            x.night(NONE);
            s.is("from now on", x.fewest(), 4);
            s.is("no NIGHT went by", x.now(0), 1);
            s.is("it owes 1", Due.with(Land.head(2, 3, 1, 1, 0)).fewest(), 4);
            s.is("it owes nothing", Due.with(Land.head(2, 0, 0, 1, 0)).fewest(), NONE);
            asked();
        });
        s.of(45, "whatever is done in each", () -> {
            s.is("one is broken", five(4, 10, 999).fewest(), 1);
            s.is("it has one more", five(5, 10, 999).fewest(), 2);
            s.is("none is broken", five(4, 15, 999).fewest(), 1);
            // 10 each night, 5 once both are broken: 14, 9, 4, and it lacks.
            s.is("both are broken", five(19, 10, 999).fewest(), 3);
            // Behind two nights it has 30; what it spends on gate 0 it lacks in the third.
            s.is("what is set up is spent", five(40, 10, 30).fewest(), 3);
            s.is("too dear to be set up", five(40, 10, 31).fewest(), NONE);
        });
        s.of(45, "NONE: not in so many", () -> {
            s.is("has 20", Due.with(Land.head(2, 20, 5, 1, 0)).fewest(), NONE);
            s.is("never", five(0, 0, 1).fewest(), NONE);
            s.is("no SAFE one", Due.with(Land.head(2, 0, 5, 1, 0) + Land.gate(0, 1, 1, 5) + Land.farmer(0, 1, 1)).fewest(), NONE);
        });
        s.of(45, "-2 likewise", () -> s.refused("fewest()", Setups::bare, DaughtersGate::fewest, -2));
        s.of(46, "GATE of NIGHT i (from 0; NONE: none)", () -> {
            plan(five(4, 10, 999), 0);
            plan(five(4, 15, 999), NONE);
            plan(five(9, 10, 999), 0, NONE);
            plan(Due.with(Land.head(2, 19, 5, 1, 0)), NONE, NONE, NONE, NONE);
        });
        s.of(46, "by the first such (the least row, NONE first)", () -> {
            // Gate 1 would do where gate 0 does, and gate 0 where none does.
            plan(five(3, 12, 999), 0);
            plan(five(3, 14, 999), NONE);
            plan(five(10, 15, 999), NONE, 0);
            plan(five(14, 10, 999), 0, 1);
            plan(five(40, 10, 30), 0, NONE, 1);
            // Both are set up for 100 each, behind the second night and the third.
            plan(five(220, 10, 100), 0, 1, NONE, 0);
        });
        s.of(46, "-3: there is no such NIGHT", () -> {
            DaughtersGate x = five(9, 10, 999);
            for (int i : new int[] {-1, 2, 3, 4, MIN, MAX}) {
                s.refused("plan(" + i + ")", () -> five(9, 10, 999), y -> y.plan(i), -3);
            }
            s.is("the last", x.plan(1), NONE);
            s.is("it did", Setups.fallen().plan(0), -3);
            s.is("it did, -1", Setups.fallen().plan(-1), -3);
        });
        s.of(46, "it does not", () -> {
            DaughtersGate x = five(0, 0, 1);
            for (int i : new int[] {-1, 0, 3, 4}) {
                s.is("plan(" + i + ")", x.plan(i), -3);
            }
        });
        s.of(46, "-2 likewise", () -> {
            s.refused("plan(0)", Setups::bare, x -> x.plan(0), -2);
            s.is("plan(-1)", Setups.bare().plan(-1), -2);
        });
    }

    private void noSuchNumber(ToIntBiFunction<DaughtersGate, Integer> call) {
        for (long bad : new long[] {7, 8, -2, 127, -128, 256, 4294967296L, 4294967295L, -4294967296L, Long.MIN_VALUE, Long.MAX_VALUE}) {
            DaughtersGate x = Due.fill(Setups.full(), 0, 3, 0, bad);
            s.is("0 and " + bad, call.applyAsInt(x, 0), -2);
            // Behind one that can't go: gate 4 is not safe.
            Due.fill(x, 0, 3, 4, bad);
            s.is("4 and " + bad, call.applyAsInt(x, 0), -2);
        }
        DaughtersGate x = Due.fill(Setups.full(), 0, 0, 0, 6, NONE);
        s.is("the last GATE and NONE", call.applyAsInt(x, 0) == -2 ? 0 : 1, 1);
        s.is("a row of 8 bytes", call.applyAsInt(Due.fill(x, 0, 3, 6, NONE), 0) == -2 ? 0 : 1, 1);
    }

    private void judge() {
        s.of(47, "JUDGE: a SLOT's row of GATES (NONE: none), NIGHT by NIGHT from the start on", () -> {
            DaughtersGate x = five(0, 0, 999);
            for (int slot = 0; slot < 4; slot++) {
                Due.fill(x, slot, slot, 0, NONE, 1);
                s.is("judge(" + slot + ")", x.judge(slot), 3);
            }
            x.night(0);
            s.is("gate 0 is broken now", x.judge(0), 3);
            s.is("no NIGHT went by", x.now(0), 1);
            DaughtersGate y = Setups.fallen();
            s.is("it gave up now, not at the start", Due.fill(y, 0, 0, 1).judge(0), 1);
            DaughtersGate z = Due.fill(Setups.forty(), 0, 0, 0);
            s.is("behind 40 acts", z.judge(0), 1);
        });
        s.of(47, "how many go (III) till the first that can't", () -> {
            DaughtersGate x = five(0, 0, 999);
            s.is("no number", Due.fill(x, 0, 0).judge(0), 0);
            s.is("it does not stand", Due.fill(x, 0, 0, 0, 0, 1).judge(0), 1);
            s.is("not SAFE", Due.fill(Setups.full(), 0, 0, 4, 0).judge(0), 0);
            s.is("it gave up", Due.fill(five(0, 8, 999), 0, 0, NONE, 0, NONE, NONE).judge(0), 2);
            long[] most = new long[60];
            java.util.Arrays.fill(most, NONE);
            s.is("60", Due.fill(x, 0, 0, most).judge(0), 60);
            most[59] = 0;
            s.is("60 with a GATE at last", Due.fill(x, 0, 0, most).judge(0), 60);
            most[58] = 0;
            s.is("it is broken in the 59th", Due.fill(x, 0, 0, most).judge(0), 59);
        });
        s.of(47, "-2: there is no such SLOT", () -> s.noSuchSlot(DaughtersGate::judge));
        s.of(47, "no SHIRE", () -> {
            s.refused("judge(0)", Setups::bare, x -> x.judge(0), -2);
            s.is("judge(3), which has nothing", Setups.bare().judge(3), -2);
            s.is("judge(4)", Setups.bare().judge(4), -2);
        });
        s.of(47, "a number is none such (asked last)", () -> noSuchNumber(DaughtersGate::judge));
        s.of(47, "-6: it has nothing", () -> {
            s.refused("judge(3)", Setups::busy, x -> x.judge(3), -6);
            DaughtersGate x = Setups.busy();
            x.row(3, 0, 0);
            s.is("an empty row is not nothing", x.judge(3), 0);
        });
        s.of(48, "What the TRUST has behind these", () -> {
            DaughtersGate x = five(7, 0, 999);
            s.is("no number", Due.fill(x, 0, 0).funds(0), 7);
            s.is("NONE", Due.fill(x, 0, 0, NONE).funds(0), 17);
            s.is("till the first that can't", Due.fill(x, 0, 0, 0, 0, 1).funds(0), 12);
            s.is("all", Due.fill(x, 0, 0, 0, 1, NONE).funds(0), 12);
            x.night(NONE);
            s.is("from the start on", x.funds(0), 12);
            s.is("it gave up", Due.fill(five(0, 8, 999), 0, 0, NONE, 0, NONE, NONE).funds(0), 0);
            s.is("set up again", Due.fill(five(7, 0, 10), 0, 0, 0, NONE, NONE).funds(0), 17);
        });
        s.of(48, "-2, -6 likewise", () -> {
            s.noSuchSlot(DaughtersGate::funds);
            noSuchNumber(DaughtersGate::funds);
            s.refused("no SHIRE", Setups::bare, x -> x.funds(0), -2);
            s.is("no SHIRE, nothing", Setups.bare().funds(3), -2);
            s.refused("funds(3)", Setups::busy, x -> x.funds(3), -6);
        });
    }

    void all() {
        night();
        now();
        down();
        back();
        lasts();
        fewest();
        judge();
    }
}
