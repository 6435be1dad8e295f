/** Promises 26 to 38: barns, horns, bonds, rounds, where dragoons are and should lie. */
final class PlaceBounds {
    private static final int NONE = DaughtersGate.NONE;
    private static final int MIN = Integer.MIN_VALUE;
    private static final int MAX = Integer.MAX_VALUE;
    private final Sentences s;

    PlaceBounds(Sentences s) {
        this.s = s;
    }

    private void barns() {
        // 5 miles from 0 to 1, 1 more to 2; no road to 3.
        String land = Land.road(0, 1, 5) + Land.road(1, 2, 1) + Land.farmer(0, 1, 0) + Land.farmer(2, 1, 9);
        s.of(26, "BARN: FARMERS who live no more miles than walk from a PLACE, as bits", () -> {
            int[][] due = {{0, 1, 0, 2, 0}, {4, 1, 2, 2, 0}, {5, 1, 3, 2, 0}, {6, 3, 3, 3, 0}, {60, 3, 3, 3, 0}};
            for (int[] d : due) {
                DaughtersGate x = Due.with(Land.head(4, 0, 0, 1, d[0]) + land);
                for (int p = 0; p < 4; p++) {
                    s.is("walk " + d[0] + ": barn(" + p + ")", x.barn(p), d[p + 1]);
                }
            }
            DaughtersGate x = Due.with(Land.chain().replace("walk 0", "walk 60") + Land.farmer(0, 5, 1).repeat(6));
            s.is("60 miles off", x.barn(3), 63);
            s.is("80 miles off", x.barn(4), 0);
        });
        s.of(26, "-2: there is none such", () -> {
            DaughtersGate x = Due.with(Land.head(4) + land);
            s.noneSuch("barn", 4, x::barn);
            s.is("the last PLACE", x.barn(3), 0);
            s.is("no SHIRE", Setups.bare().barn(0), -2);
        });
        s.of(27, "The PLACE whose BARN has most", () -> {
            s.is("walk 4", Due.with(Land.head(4, 0, 0, 1, 4) + land + Land.farmer(1, 0, 1)).barns(), 1);
            s.is("walk 5", Due.with(Land.head(4, 0, 0, 1, 5) + land).barns(), 1);
            s.is("the last PLACE", Due.with(Land.head(6) + Land.farmer(5, 0, 1)).barns(), 5);
        });
        s.of(27, "the first of several", () -> {
            s.is("all", Due.with(Land.head(4, 0, 0, 1, 6) + land).barns(), 0);
            s.is("0 and 2", Due.with(Land.head(4) + land).barns(), 0);
            s.is("1 and 2", Due.with(Land.head(4) + Land.farmer(2, 0, 1) + Land.farmer(1, 0, 1)).barns(), 1);
            s.is("nobody lives there", Setups.empty().barns(), 0);
        });
        s.of(27, "-2: there is no SHIRE", () -> s.refused("barns()", Setups::bare, DaughtersGate::barns, -2));
    }

    private void horns() {
        s.of(28, "HORN: PLACES that are no more than n", () -> {
            DaughtersGate x = Due.with(Land.chain());
            int[][] due = {{0, 1}, {19, 1}, {20, 3}, {21, 3}, {39, 3}, {40, 7}, {79, 15}, {80, 31}};
            for (int[] d : due) {
                s.is("horn(0, " + d[0] + ")", x.horn(0, d[0]), d[1]);
            }
            s.is("horn(2, 20)", x.horn(2, 20), 14);
            s.is("all", x.horn(2, 60), 63);
        });
        s.of(28, "(0 .. 99)", () -> {
            DaughtersGate x = Due.with(Land.chain());
            s.is("horn(0, 0)", x.horn(0, 0), 1);
            s.is("horn(0, 99): 5 is 100 miles off", x.horn(0, 99), 31);
            s.is("horn(0, 100)", x.horn(0, 100), -2);
            s.is("horn(0, -1)", x.horn(0, -1), -2);
        });
        s.of(28, "miles from a PLACE (it, too), as bits", () -> {
            DaughtersGate x = Due.with(Land.chain());
            for (int p = 0; p < 6; p++) {
                s.is("horn(" + p + ", 0)", x.horn(p, 0), 1 << p);
            }
            s.is("no way to others", Setups.empty().horn(1, 99), 2);
        });
        s.of(28, "-2: there are none such", () -> {
            DaughtersGate x = Due.with(Land.chain());
            s.noneSuch("the PLACE", 6, p -> x.horn(p, 0));
            s.noneSuch("n", 100, n -> x.horn(0, n));
            s.is("no SHIRE", Setups.bare().horn(0, 0), -2);
        });
    }

    private void bonds() {
        s.of(29, "What the TRUST has behind n (0 .. 60) NIGHTS from now on", () -> {
            DaughtersGate x = Setups.trust(7, 5, 999);
            s.is("bond(0)", x.bond(0), 7);
            s.is("bond(1)", x.bond(1), 17);
            s.is("bond(60)", x.bond(60), 607);
            x.night(NONE);
            s.is("bond(0) from now on", x.bond(0), 17);
            s.is("bond(60) from now on", x.bond(60), 617);
            s.is("no NIGHT went by", x.now(0), 1);
            DaughtersGate most = Due.with(Land.chain().replace("has 0", "has 9999") + Land.farmer(0, 5, 9).repeat(6));
            s.is("the most there can be", most.bond(60), 1613799);
        });
        s.of(29, "none broken any more", () -> {
            DaughtersGate x = Setups.trust(7, 0, 30);
            x.night(0);
            // 12, then 17, 22, 27, and at 32 gate 0 is set up for 30.
            int[] due = {12, 17, 22, 27, 2, 17};
            for (int n = 0; n < due.length; n++) {
                s.is("bond(" + n + ")", x.bond(n), due[n]);
            }
            s.is("it is broken still", x.gates(), 2);
        });
        s.of(29, "(as long as it does not give up)", () -> {
            DaughtersGate x = Setups.trust(7, 20, 999);
            int[] due = {7, 2, 0, 0, 0};
            for (int n = 0; n < due.length; n++) {
                s.is("bond(" + n + ")", x.bond(n), due[n]);
            }
            s.is("bond(60)", x.bond(60), 0);
            s.is("it gave up", Setups.fallen().bond(60), 0);
            s.is("it has not given up now", x.now(2), 0);
        });
        s.of(29, "-2: there is no such n", () -> {
            DaughtersGate x = Setups.trust(7, 5, 999);
            s.noneSuch("bond", 61, x::bond);
        });
        s.of(29, "no SHIRE", () -> s.refused("bond(0)", Setups::bare, x -> x.bond(0), -2));
    }

    private void rounds() {
        s.of(30, "ROUND: the least tolls of a round of a FARMER from where he is through all of a set of PLACES (bits) and back, by any order", () -> {
            DaughtersGate x = Due.with(Land.chain() + Land.farmer(2, 3, 9) + Land.farmer(0, 1, 0));
            s.is("no PLACE", x.round(0, 0), 0);
            s.is("where he is", x.round(0, 4), 0);
            s.is("both ends", x.round(0, 33), 990);
            s.is("all", x.round(0, 63), 990);
            s.is("all of another", x.round(1, 63), 990);
            s.is("one", x.round(1, 2), 198);
            DaughtersGate y = Due.with(square(1));
            s.is("by 1 3 2, not by 1 2 3", y.round(0, 14), 4);
        });
        s.of(30, "(a GATE pays each time)", () -> {
            DaughtersGate x = Due.with(Land.head(3) + Land.gate(0, 1, 1, 7) + Land.gate(0, 2, 1, 5) + Land.farmer(0, 1, 1));
            s.is("to and fro", x.round(0, 2), 14);
            s.is("both", x.round(0, 6), 24);
            DaughtersGate y = Setups.trust(0, 0, 999);
            y.night(0);
            s.is("a broken one takes none", y.round(1, 6), 10);
        });
        s.of(30, "NONE: there is none", () -> {
            DaughtersGate x = Due.with(Land.head(4) + Land.gate(0, 1, 1, 7) + Land.farmer(0, 1, 1) + Land.farmer(3, 1, 1));
            s.is("a PLACE without a road", x.round(0, 4), NONE);
            s.is("it among others", x.round(0, 15), NONE);
            s.is("he lives there", x.round(1, 8), 0);
            s.is("he can't go", x.round(1, 1), NONE);
        });
        s.of(30, "-2: there are none such", () -> {
            DaughtersGate x = Due.with(Land.head(4) + Land.gate(0, 1, 1, 7) + Land.farmer(0, 1, 1));
            s.noneSuch("the FARMER", 1, f -> x.round(f, 0));
            s.noneSuch("the set", 16, set -> x.round(0, set));
            s.is("one PLACE of it is none", x.round(0, 17), -2);
            s.is("64 of six", Due.with(Land.chain() + Land.farmer(0, 1, 1)).round(0, 64), -2);
            s.is("no SHIRE", Setups.bare().round(0, 0), -2);
        });
        rows();
    }

    /** Four places round a square, 0 1 3 2, all gates of one toll. */
    private static String square(int toll) {
        return Land.head(4) + Land.gate(0, 1, 1, toll) + Land.gate(1, 3, 1, toll) + Land.gate(3, 2, 1, toll) + Land.gate(2, 0, 1, toll)
            + Land.farmer(0, 1, 1) + Land.farmer(3, 1, 1);
    }

    private void row(DaughtersGate x, int farmer, int set, int... due) {
        for (int i = 0; i < due.length; i++) {
            s.is("rounds(" + farmer + ", " + set + ", " + i + ")", x.rounds(farmer, set, i), due[i]);
        }
        s.is("rounds(" + farmer + ", " + set + ", " + due.length + ")", x.rounds(farmer, set, due.length), NONE);
    }

    private void rows() {
        s.of(31, "The PLACE of the set (where he is aside) to which he goes at place i (from 0)", () -> {
            DaughtersGate x = Due.with(square(1));
            row(x, 0, 14, 1, 3, 2);
            row(x, 0, 15, 1, 3, 2);
            row(x, 0, 1);
            row(x, 0, 0);
            row(x, 1, 15, 1, 0, 2);
            row(Due.with(Land.chain() + Land.farmer(5, 0, 1)), 0, 63, 0, 1, 2, 3, 4);
        });
        s.of(31, "by the first such order (the least row)", () -> {
            // 1 3 2 and 2 3 1 are of 4; to 1 and 2 alone any order is of 4.
            row(Due.with(square(1)), 0, 14, 1, 3, 2);
            row(Due.with(square(1)), 1, 6, 1, 2);
            row(Due.with(square(1).replace(" gate 1", "")), 0, 14, 1, 2, 3);
        });
        s.of(31, "NONE: there is none such", () -> {
            DaughtersGate x = Due.with(square(1) + Land.farmer(2, 1, 1));
            for (int i : new int[] {-1, 3, 4, MIN, MAX}) {
                s.is("rounds(0, 14, " + i + ")", x.rounds(0, 14, i), NONE);
            }
            DaughtersGate y = Due.with(Land.head(3) + Land.gate(0, 1, 1, 7) + Land.farmer(0, 1, 1));
            s.is("no round", y.rounds(0, 6, 0), NONE);
            s.is("another one is found first", x.round(0, 14) + y.rounds(0, 6, 0), 3);
            y.round(0, 2);
            s.is("no round behind a round", y.rounds(0, 6, 0), NONE);
        });
        s.of(31, "-2 likewise", () -> {
            DaughtersGate x = Due.with(square(1));
            s.noneSuch("the FARMER", 2, f -> x.rounds(f, 0, 0));
            s.noneSuch("the set", 16, set -> x.rounds(0, set, 0));
            s.noneSuch("the set, and no such i", 16, set -> x.rounds(0, set, -1));
            s.is("no SHIRE", Setups.bare().rounds(0, 0, 0), -2);
        });
    }

    private void dragoons() {
        s.of(32, "PLACE of the DRAGOONS now", () -> {
            s.is("as told", Setups.full().dragoons(), 5);
            s.is("not told", Setups.empty().dragoons(), 0);
            s.is("behind nights", Setups.busy().dragoons(), 3);
            DaughtersGate x = Setups.busy();
            x.undo();
            s.is("one taken back", x.dragoons(), 0);
            x.undo();
            s.is("all taken back", x.dragoons(), 5);
        });
        s.of(32, "-2: there is no SHIRE", () -> s.refused("dragoons()", Setups::bare, DaughtersGate::dragoons, -2));
        s.of(33, "Whether a GATE that stands can be broken tonight: 1, 0", () -> {
            DaughtersGate x = Setups.busy();
            // Dragoons at 3, pace 1: gates 2 and 6 end there.
            int[] due = {1, 1, 0, -2, 1, 1, 0, -2};
            for (int g = 0; g < 8; g++) {
                s.is("safe(" + g + ")", x.safe(g), due[g]);
            }
        });
        s.of(33, "(it is not SAFE, the TRUST gave up)", () -> {
            DaughtersGate x = Due.with(Land.head(3) + Land.road(0, 1, 2) + Land.gate(1, 2, 1, 1) + Land.dragoons(0, 2));
            s.is("2 miles at pace 2", x.safe(1), 0);
            DaughtersGate y = Due.with(Land.head(3) + Land.road(0, 1, 3) + Land.gate(1, 2, 1, 1) + Land.dragoons(0, 2));
            s.is("3 miles at pace 2", y.safe(1), 1);
            DaughtersGate z = Setups.fallen();
            s.is("it gave up", z.safe(1), 0);
            z.undo();
            s.is("it has not", z.safe(1), 1);
        });
        s.of(33, "-2: there is none such", () -> {
            DaughtersGate x = Setups.busy();
            s.noneSuch("safe", 8, x::safe);
            s.is("no GATE", x.safe(7), -2);
            s.is("a broken one", x.safe(3), -2);
            s.is("a broken one of a TRUST that gave up", Setups.fallen().safe(0), -2);
            s.is("no SHIRE", Setups.bare().safe(0), -2);
        });
        s.of(34, "GATES that can be broken tonight, as bits", () -> {
            s.is("all", Due.with(Probe.READER).open(), 255);
            s.is("behind nights", Setups.busy().open(), 51);
            s.is("it gave up", Setups.fallen().open(), 0);
            s.is("no GATES", Setups.empty().open(), 0);
        });
        s.of(34, "-2: there is no SHIRE", () -> s.refused("open()", Setups::bare, DaughtersGate::open, -2));
    }

    /** Two gates apart (0 to 1, 2 to 3) of these tolls, each gone by once; dragoons at 4, where no road goes, of pace 0. */
    private static String apart(int one, int other) {
        return Land.head(5, 0, 0, 999, 0) + Land.gate(0, 1, 1, one) + Land.gate(2, 3, 1, other)
            + Land.farmer(0, 1, 1) + Land.farmer(3, 2, 1) + Land.dragoons(4, 0);
    }

    /** Three places and two gates, which both end at one of them. */
    private static String meeting(int place) {
        int one = (place + 1) % 3;
        int other = (place + 2) % 3;
        return Land.head(3) + Land.gate(one, place, 5, 9) + Land.gate(place, other, 5, 9) + Land.farmer(one, place, 1) + Land.farmer(other, place, 1);
    }

    private void lies() {
        s.of(35, "LIE: the PLACE for DRAGOONS by which the most LOSS of a GATE that were SAFE is least", () -> {
            s.is("3 and 5", Due.with(apart(3, 5)).lie(), 2);
            s.is("5 and 3", Due.with(apart(5, 3)).lie(), 0);
            s.is("4 and 5", Due.with(apart(4, 5)).lie(), 2);
            DaughtersGate x = Due.with(apart(3, 5));
            x.night(1);
            s.is("one is broken", x.lie(), 0);
            s.is("they stay where they are", x.dragoons(), 2);
            for (int p = 0; p < 3; p++) {
                s.is("where both end, " + p, Due.with(meeting(p)).lie(), p);
            }
        });
        s.of(35, "the first of several", () -> {
            s.is("of one LOSS", Due.with(apart(5, 5)).lie(), 0);
            s.is("2 and 3", Due.with(apart(1, 9)).lie(), 2);
            s.is("no GATES", Setups.empty().lie(), 0);
            s.is("no LOSS", Due.with(Land.head(3) + Land.gate(1, 2, 1, 9)).lie(), 0);
            // Place 4 sees no road, 1 keeps gate 0 as well as 0 does.
            s.is("all in reach", Due.with(apart(3, 3) + Land.road(1, 2, 1) + Land.road(3, 4, 1) + Land.dragoons(4, 3)).lie(), 0);
        });
        s.of(35, "-2: there is no SHIRE", () -> s.refused("lie()", Setups::bare, DaughtersGate::lie, -2));
        s.of(36, "That LOSS", () -> {
            s.is("3 and 5", Due.with(apart(3, 5)).lies(), 3);
            s.is("5 and 5", Due.with(apart(5, 5)).lies(), 5);
            for (int p = 0; p < 3; p++) {
                s.is("where both end, " + p, Due.with(meeting(p)).lies(), 0);
            }
            DaughtersGate x = Due.with(apart(3, 5));
            x.night(1);
            s.is("one is broken", x.lies(), 0);
            s.is("no GATES", Setups.empty().lies(), 0);
            s.is("no SAFE one", Due.with(apart(3, 3) + Land.road(1, 2, 1) + Land.road(3, 4, 1) + Land.dragoons(4, 3)).lies(), 0);
        });
        s.of(36, "-2 likewise", () -> s.refused("lies()", Setups::bare, DaughtersGate::lies, -2));
    }

    private void sure() {
        s.of(37, "SURE: the GATE that stands that is SAFE from most PLACES where DRAGOONS might be", () -> {
            // At pace 1, from 4 gate 0 is in reach, too.
            DaughtersGate x = Due.with(apart(9, 1) + Land.road(1, 4, 1) + Land.dragoons(4, 1));
            s.is("three against two", x.sure(), 1);
            DaughtersGate y = Due.with(apart(9, 1) + Land.road(1, 4, 1) + Land.dragoons(4, 0));
            s.is("three each", y.sure(), 0);
            y.night(0);
            s.is("the first is broken", y.sure(), 1);
        });
        s.of(37, "the first of several", () -> s.is("sure()", Due.with(apart(1, 9)).sure(), 0));
        s.of(37, "if from any", () -> {
            s.is("from one", Due.with(Land.head(3) + Land.gate(0, 1, 1, 1) + Land.dragoons(0, 60)).sure(), 0);
            s.is("from one at pace 1", Due.with(Land.head(3) + Land.gate(0, 1, 1, 1) + Land.road(1, 2, 2) + Land.dragoons(0, 1)).sure(), 0);
            s.is("from none at pace 2", Due.with(Land.head(3) + Land.gate(0, 1, 1, 1) + Land.road(1, 2, 2) + Land.dragoons(0, 2)).sure(), NONE);
        });
        s.of(37, "NONE: none", () -> {
            s.is("no GATES", Setups.empty().sure(), NONE);
            s.is("from none", Due.with(Land.head(2) + Land.gate(0, 1, 1, 1)).sure(), NONE);
            DaughtersGate x = Due.with(Land.head(3) + Land.gate(0, 1, 1, 1) + Land.dragoons(2, 0));
            x.night(0);
            s.is("it is broken", x.sure(), NONE);
        });
        s.of(37, "-2: there is no SHIRE", () -> s.refused("sure()", Setups::bare, DaughtersGate::sure, -2));
    }

    private void rests() {
        s.of(38, "REST: pairs of a PLACE and a GATE that stands by which neither side would do better", () -> {
            s.is("none broken", Due.with(Land.head(3) + Land.gate(0, 1, 1, 4)).rests(), 3);
            DaughtersGate x = Due.with(Land.head(3, 0, 0, 999, 0) + Land.gate(0, 1, 1, 4) + Land.dragoons(2, 0));
            x.night(0);
            s.is("a broken one is in no pair", x.rests(), 0);
        });
        s.of(38, "the DRAGOONS by another PLACE (less LOSS: it is not SAFE, none)", () -> {
            // From 0 and 1 it is not safe; from 2 and 3 it is, and they would go.
            s.is("of a LOSS", Due.with(Land.head(4) + Land.gate(0, 1, 1, 4) + Land.farmer(0, 1, 1)).rests(), 2);
            s.is("without LOSS", Due.with(Land.head(4) + Land.gate(0, 1, 1, 4) + Land.farmer(0, 1, 0)).rests(), 4);
        });
        s.of(38, "the band by another GATE (more)", () -> {
            s.is("two of a LOSS", Due.with(apart(3, 5)).rests(), 0);
            // Gate 1 brings nothing: from 0 and 1 both gates are of no LOSS.
            s.is("one of none", Due.with(apart(3, 5) .replace("farmer at 3 to 2 times 1", "farmer at 3 to 2 times 0")).rests(), 4);
            s.is("both of none", Due.with(apart(3, 5).replace("times 1", "times 0")).rests(), 10);
        });
        s.of(38, "how many", () -> {
            s.is("the most there can be", Due.with(Probe.READER.replaceAll("farmer[^;]*;", "")).rests(), 48);
            s.is("no GATES", Setups.empty().rests(), 0);
        });
        s.of(38, "-2: there is no SHIRE", () -> s.refused("rests()", Setups::bare, DaughtersGate::rests, -2));
    }

    void all() {
        barns();
        horns();
        bonds();
        rounds();
        dragoons();
        lies();
        sure();
        rests();
    }
}
