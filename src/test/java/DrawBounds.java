/** Promises 57 to 60, 62 and 63: nights drawn, tolls and times that are others, images. */
final class DrawBounds {
    private static final int NONE = DaughtersGate.NONE;
    private static final int MIN = Integer.MIN_VALUE;
    private static final int MAX = Integer.MAX_VALUE;
    private static final int LAST_SEED = 2000000000;
    private final Sentences s;

    DrawBounds(Sentences s) {
        this.s = s;
    }

    /** Two gates of 5 and 7 a day; from seed 1 none, gate 1, gate 0, and none any more are broken. */
    private static DaughtersGate two(int owes) {
        return Due.with(TermsWaysBounds.apart(4, "").replace("owes 0", "owes " + owes));
    }

    /** One gate, without which the trust gives up. */
    private static DaughtersGate one() {
        return Due.with(Land.head(3, 0, 5, 50, 0) + Land.gate(0, 1, 1, 5) + Land.farmer(0, 1, 1) + Land.dragoons(2, 0));
    }

    private void drawn() {
        s.of(57, "NIGHTS drawn (IV), n (0 .. 30) from now on", () -> {
            DaughtersGate x = two(0);
            int[] due = {0, 12, 17, 17};
            for (int n = 0; n < 4; n++) {
                s.is("drawn(1, " + n + ", 0)", x.drawn(1, n, 0), due[n]);
            }
            s.is("drawn(1, 30, 0)", x.drawn(1, 30, 0), 17);
            s.is("drawn(1, 31, 0)", x.drawn(1, 31, 0), -2);
            s.is("drawn(1, -1, 0)", x.drawn(1, -1, 0), -2);
            x.night(NONE);
            s.is("drawn(1, 0, 0) from now on", x.drawn(1, 0, 0), 12);
            s.is("drawn(1, 30, 0) from now on", x.drawn(1, 30, 0), 29);
            s.is("30 nights of an empty land", Due.with(Land.head(2, 9999, 9, 1, 0)).drawn(1, 30, 0), 9729);
            s.alike("drawn(1, 30, 0)", Setups::busy, y -> y.drawn(1, 30, 0));
        });
        s.of(57, "from a seed (0 .. 2,000,000,000)", () -> {
            s.is("drawn(0, 1, 0)", two(0).drawn(0, 1, 0), 7);
            s.is("the last", two(0).drawn(LAST_SEED, 1, 0), 5);
            s.is("the last but one", two(0).drawn(LAST_SEED - 1, 1, 0), 7);
            s.is("one more", two(0).drawn(LAST_SEED + 1, 1, 0), -2);
            s.is("-1", two(0).drawn(-1, 1, 0), -2);
        });
        s.of(57, "what 0: what the TRUST has", () -> {
            s.is("it has", two(6).drawn(1, 2, 0), 5);
            s.is("it gave up", two(6).drawn(1, 3, 0), 0);
        });
        s.of(57, "1: 1 if it gave up, else 0", () -> {
            s.is("behind two", two(6).drawn(1, 2, 1), 0);
            s.is("behind three", two(6).drawn(1, 3, 1), 1);
            s.is("it did now", Setups.fallen().drawn(1, 0, 1), 1);
            s.is("it has not now", two(6).now(2), 0);
        });
        s.of(57, "2: how many GATES were broken in them", () -> {
            int[] due = {0, 0, 1, 2, 2};
            for (int n = 0; n < due.length; n++) {
                s.is("drawn(1, " + n + ", 2)", two(0).drawn(1, n, 2), due[n]);
            }
            DaughtersGate x = two(0);
            x.night(1);
            s.is("those ahead of them are not counted", x.drawn(1, 30, 2), 1);
            // Each is set up behind two nights, so that it can be broken again.
            DaughtersGate y = Due.with(TermsWaysBounds.apart(4, "").replace("builds 999", "builds 1"));
            s.is("again", y.drawn(1, 30, 2) > 2 ? 1 : 0, 1);
        });
        s.of(57, "-2: there are none such", () -> {
            DaughtersGate x = two(0);
            s.noneSuch("the seed", LAST_SEED + 1, seed -> x.drawn(seed, 1, 0));
            s.noneSuch("n", 31, n -> x.drawn(1, n, 0));
            s.noneSuch("what", 3, what -> x.drawn(1, 1, what));
        });
        s.of(57, "no SHIRE", () -> s.refused("drawn(0, 0, 0)", Setups::bare, x -> x.drawn(0, 0, 0), -2));
    }

    private void luck() {
        // First draws of two: of 0, 1, 2 it is 0, of 3, 4, 5 it is 1, of 6 .. 9 it is 0 again; 11 of the first 20 are 0.
        s.of(58, "Of m (1 .. 20) such", () -> {
            s.is("luck(0, 1, 1)", one().luck(0, 1, 1), 1);
            s.is("luck(3, 1, 1)", one().luck(3, 1, 1), 0);
            s.is("luck(0, 20, 1)", one().luck(0, 20, 1), 11);
            s.is("luck(0, 0, 1)", one().luck(0, 0, 1), -2);
            s.is("luck(0, 21, 1)", one().luck(0, 21, 1), -2);
        });
        s.of(58, "from seeds, the seed and 1, ..", () -> {
            int[][] due = {{0, 3, 3}, {0, 4, 3}, {2, 1, 1}, {2, 2, 1}, {3, 3, 0}, {3, 4, 1}, {5, 2, 1}};
            for (int[] d : due) {
                s.is("luck(" + d[0] + ", " + d[1] + ", 1)", one().luck(d[0], d[1], 1), d[2]);
            }
            s.is("beyond the last seed", one().luck(LAST_SEED, 20, 1), 11);
            int sum = 0;
            for (int i = 0; i < 20; i++) {
                sum += one().drawn(100 + i, 1, 1);
            }
            s.is("as they are drawn", one().luck(100, 20, 1), sum);
        });
        s.of(58, "in how many it gave up", () -> {
            s.is("none in no NIGHT", one().luck(0, 20, 0), 0);
            s.is("all that did", Setups.fallen().luck(0, 20, 0), 20);
            s.is("all in 30", one().luck(0, 20, 30), 20);
            s.is("never", Setups.empty().luck(0, 20, 30), 0);
            s.alike("luck(0, 20, 30)", Setups::busy, x -> x.luck(0, 20, 30));
        });
        s.of(58, "-2 likewise", () -> {
            DaughtersGate x = one();
            s.noneSuch("the seed", LAST_SEED + 1, seed -> x.luck(seed, 1, 1));
            s.noneSuch("n", 31, n -> x.luck(1, 1, n));
            s.refused("no SHIRE", Setups::bare, y -> y.luck(0, 1, 0), -2);
        });
        s.of(58, "no such m", () -> {
            DaughtersGate x = one();
            s.noneSuch("m", 21, m -> x.luck(1, m, 1));
            s.is("m 0", x.luck(1, 0, 1), -2);
        });
    }

    private void rate() {
        s.of(59, "The toll of a ROAD's GATE is n (1 .. 99) from now on: what it was", () -> {
            DaughtersGate x = one();
            s.is("rate(0, 99)", x.rate(0, 99), 5);
            s.is("road(0, 3)", x.road(0, 3), 99);
            s.is("income()", x.income(), 99);
            s.is("fewest()", x.fewest(), 1);
            s.is("rate(0, 1)", x.rate(0, 1), 99);
            s.is("income() then", x.income(), 1);
            s.is("tolls(0, 1)", x.tolls(0, 1), 1);
            s.is("it stands", x.gates(), 1);
            s.is("night(NONE)", x.night(NONE), 1);
            x.undo();
            s.is("it stays", x.road(0, 3), 1);
            s.is("rate(0, 1) again", x.rate(0, 1), 1);
            DaughtersGate y = Due.with(Probe.READER);
            s.is("the last ROAD", y.rate(7, 98), 17);
        });
        s.of(59, "-5: there were acts", () -> {
            s.refused("rate(0, 9)", Setups::busy, x -> x.rate(0, 9), -5);
            s.refused("rate(1, 1)", Setups::forty, x -> x.rate(1, 1), -5);
            DaughtersGate x = Setups.busy();
            x.undo();
            s.is("one is left", x.rate(0, 9), -5);
            x.undo();
            s.is("none is left", x.rate(0, 9), 5);
            DaughtersGate y = Setups.busy();
            y.anew();
            s.is("anew", y.rate(0, 9), 5);
            DaughtersGate z = Due.with(Land.head(2) + Land.gate(0, 1, 1, 5));
            z.night(NONE);
            s.is("a night in which none is broken", z.rate(0, 9), -5);
        });
        s.of(59, "-2: there are none such", () -> {
            for (int n : new int[] {0, 100, -1, MIN, MAX}) {
                s.refused("rate(0, " + n + ")", Setups::full, x -> x.rate(0, n), -2);
            }
            for (int g : new int[] {-1, 7, 8, MIN, MAX}) {
                s.refused("rate(" + g + ", 9)", Setups::full, x -> x.rate(g, 9), -2);
            }
            s.refused("no SHIRE", Setups::bare, x -> x.rate(0, 9), -2);
            s.is("behind acts", Setups.busy().rate(7, 9), -2);
            s.is("behind acts, n", Setups.busy().rate(0, 100), -2);
        });
    }

    private void times() {
        s.of(60, "A FARMER goes n (0 .. 9) times from now on: how often he did", () -> {
            DaughtersGate x = one();
            s.is("times(0, 9)", x.times(0, 9), 1);
            s.is("farmer(0, 2)", x.farmer(0, 2), 9);
            s.is("pays(0)", x.pays(0), 45);
            s.is("income()", x.income(), 45);
            s.is("times(0, 0)", x.times(0, 0), 9);
            s.is("income() then", x.income(), 0);
            s.is("his WAY stays", x.way(0, 0), 0);
            s.is("fewest()", x.fewest(), 1);
            x.night(NONE);
            x.undo();
            s.is("it stays", x.farmer(0, 2), 0);
            s.is("the last FARMER", Setups.full().times(5, 8), 9);
        });
        s.of(60, "-5", () -> {
            s.refused("times(0, 9)", Setups::busy, x -> x.times(0, 9), -5);
            s.refused("times(0, 0)", Setups::forty, x -> x.times(0, 0), -5);
            DaughtersGate x = Setups.busy();
            x.undo();
            s.is("one is left", x.times(0, 9), -5);
            x.undo();
            s.is("none is left", x.times(0, 9), 2);
        });
        s.of(60, "-2 likewise", () -> {
            for (int n : new int[] {10, -1, MIN, MAX}) {
                s.refused("times(0, " + n + ")", Setups::full, x -> x.times(0, n), -2);
            }
            for (int f : new int[] {-1, 6, MIN, MAX}) {
                s.refused("times(" + f + ", 1)", Setups::full, x -> x.times(f, 1), -2);
            }
            s.is("one beyond the last", one().times(1, 1), -2);
            s.refused("no SHIRE", Setups::bare, x -> x.times(0, 1), -2);
            s.is("behind acts", Setups.busy().times(6, 1), -2);
            s.is("behind acts, n", Setups.busy().times(0, 10), -2);
        });
    }

    private void image() {
        s.of(62, "IMAGE k (0 .. 2) keeps the SHIRE, and acts: 0", () -> {
            DaughtersGate x = Setups.full();
            for (int k = 0; k < 3; k++) {
                s.is("image(" + k + ")", x.image(k), 0);
                x.night(NONE);
            }
            x.anew();
            x.rate(0, 77);
            x.times(0, 7);
            for (int k = 2; k >= 0; k--) {
                s.is("back(" + k + ")", x.back(k), 0);
                s.is("acts", x.count(6), k);
                s.is("the toll", x.road(0, 3), 5);
                s.is("the times", x.farmer(0, 2), 2);
            }
            x.back(2);
            s.is("in place of another", x.image(0), 0);
            x.anew();
            x.back(0);
            s.is("acts of the other", x.count(6), 2);
            Due.tape(x, Land.head(2));
            x.shire();
            s.is("of another shire", x.image(1), 0);
            x.back(0);
            s.is("LINES", x.count(7), 16);
            x.back(1);
            s.is("LINES of the other", x.count(7), 1);
            s.is("its FARMERS", x.count(2), 0);
            s.alike("image leaves all as it was, itself aside", () -> imaged(Setups.busy()), DrawBounds::imagedOnce);
            DaughtersGate y = Setups.forty();
            y.image(2);
            y.anew();
            y.back(2);
            s.is("forty acts", y.count(6), 40);
            s.is("what it has", y.now(1), 200);
        });
        s.of(62, "-2: no such k", () -> {
            for (int k : new int[] {-1, 3, 4, MIN, MAX}) {
                s.refused("image(" + k + ")", Setups::busy, x -> x.image(k), -2);
                s.refused("image(" + k + "), no SHIRE", Setups::bare, x -> x.image(k), -2);
            }
        });
    }

    private static DaughtersGate imaged(DaughtersGate x) {
        x.image(2);
        return x;
    }

    private static long imagedOnce(DaughtersGate x) {
        return x.image(2);
    }

    private void back() {
        s.of(63, "It is as IMAGE k has it: 0", () -> {
            s.alike("there and back", () -> imaged(Setups.busy()), x -> {
                x.night(NONE);
                x.anew();
                x.rate(0, 99);
                x.times(0, 9);
                x.night(NONE);
                return x.back(2);
            });
            s.alike("no SHIRE and back", () -> imaged(Setups.full()), x -> x.shire() + x.back(2));
            s.alike("a SHIRE and back to none", () -> imaged(new DaughtersGate()), x -> {
                Due.tape(x, Setups.FULL).shire();
                x.night(0);
                return x.back(2);
            });
            DaughtersGate x = Setups.busy();
            s.is("back(1)", x.back(1), 0);
            s.is("acts", x.count(6), 1);
            s.is("gates()", x.gates(), 126);
            s.is("dragoons()", x.dragoons(), 0);
            s.is("the TAPE stays", x.count(8), 44);
            s.is("the SLOTS stay", x.count(9), 3);
            s.is("the FAULT stays", x.fault(0), 2);
            s.is("undo() goes on from it", x.undo(), 0);
            s.is("the IMAGE stays", x.back(1) + x.count(6), 1);
        });
        s.of(63, "-2: no such k", () -> {
            for (int k : new int[] {-1, 3, 4, MIN, MAX}) {
                s.refused("back(" + k + ")", Setups::busy, x -> x.back(k), -2);
                s.is("back(" + k + ") of a new one", new DaughtersGate().back(k), -2);
            }
        });
        s.of(63, "-6: it has nothing", () -> {
            s.refused("back(2)", Setups::busy, x -> x.back(2), -6);
            s.refused("back(0), no SHIRE", Setups::bare, x -> x.back(0), -6);
            for (int k = 0; k < 3; k++) {
                s.is("back(" + k + ") of a new one", new DaughtersGate().back(k), -6);
            }
            DaughtersGate x = new DaughtersGate();
            x.image(1);
            s.is("an IMAGE of no SHIRE is not nothing", x.back(1), 0);
            s.is("the others have nothing", x.back(0) + x.back(2), -12);
        });
    }

    void all() {
        drawn();
        luck();
        rate();
        times();
        image();
        back();
    }
}
