/** Promises 8 to 25: miles, tolls, ways, what gates bring, what to ask for them, who is angry. */
final class TollBounds {
    private static final int NONE = DaughtersGate.NONE;
    private static final int MIN = Integer.MIN_VALUE;
    private static final int MAX = Integer.MAX_VALUE;
    // Two roads beside one another, the first of less toll; dragoons where no road goes.
    private static final String BESIDE = Land.gate(0, 1, 2, 5) + Land.gate(0, 1, 3, 9) + Land.dragoons(2, 0);
    private final Sentences s;

    TollBounds(Sentences s) {
        this.s = s;
    }

    private static String beside(String farmers) {
        return Land.head(3, 0, 0, 999, 0) + BESIDE + farmers;
    }

    /** Six farmers who go nine times by the dearest way. */
    private static String dearest() {
        return Land.chain() + Land.farmer(0, 5, 9).repeat(6);
    }

    /** A gate's call is refused for roads that are none, have none, or whose gate is broken. */
    private void noGate(String name, java.util.function.ToIntBiFunction<DaughtersGate, Integer> call) {
        DaughtersGate x = Setups.busy();
        s.noneSuch(name, 8, g -> call.applyAsInt(x, g));
        s.is(name + "(7): no GATE", call.applyAsInt(x, 7), -2);
        s.is(name + "(3): it is broken", call.applyAsInt(x, 3), -2);
        s.is(name + "(6): it stands", call.applyAsInt(x, 6) == -2 ? 0 : 1, 1);
        s.is(name + "(0): it was set up again", call.applyAsInt(x, 0) == -2 ? 0 : 1, 1);
        s.is(name + "(0): no SHIRE", call.applyAsInt(Setups.bare(), 0), -2);
    }

    private void miles() {
        s.of(8, "The fewest miles from a PLACE to another one", () -> {
            DaughtersGate x = Due.with(Land.chain());
            s.is("the most there can be", x.miles(0, 5), 100);
            s.is("back", x.miles(5, 0), 100);
            DaughtersGate y = Due.with(Land.head(3) + Land.road(0, 1, 20) + Land.road(1, 0, 19) + Land.road(1, 2, 1) + Land.road(2, 0, 17));
            s.is("by another PLACE", y.miles(0, 1), 18);
            s.is("the fewest there can be", y.miles(1, 2), 1);
        });
        s.of(8, "(0 to itself)", () -> {
            DaughtersGate x = Due.with(beside(""));
            for (int p = 0; p < 3; p++) {
                s.is("miles(" + p + ", " + p + ")", x.miles(p, p), 0);
            }
        });
        s.of(8, "NONE: there is no way", () -> {
            s.is("miles(0, 2)", Due.with(beside("")).miles(0, 2), NONE);
            s.is("miles(2, 1)", Due.with(beside("")).miles(2, 1), NONE);
            s.is("no roads", Setups.empty().miles(0, 1), NONE);
        });
        s.of(8, "-2: there are none such", () -> {
            DaughtersGate x = Due.with(beside(""));
            s.noneSuch("the other", 3, p -> x.miles(0, p));
            s.noneSuch("the first", 3, p -> x.miles(p, 0));
            s.noneSuch("both", 3, p -> x.miles(p, p));
            s.is("no SHIRE", Setups.bare().miles(0, 0), -2);
        });
    }

    private void tolls() {
        s.of(9, "The least tolls (II) from a PLACE to another one now", () -> {
            s.is("the most there can be", Due.with(Land.chain()).tolls(0, 5), 495);
            DaughtersGate x = Due.with(beside(""));
            s.is("tolls(0, 1)", x.tolls(0, 1), 5);
            s.is("tolls(1, 0)", x.tolls(1, 0), 5);
            s.is("tolls(0, 0)", x.tolls(0, 0), 0);
            s.is("tolls(2, 2)", x.tolls(2, 2), 0);
            x.night(1);
            s.is("tolls(0, 1) by a broken gate", x.tolls(0, 1), 0);
            // What was asked ahead of other nights does not tell now.
            DaughtersGate y = Due.with(TermsWaysBounds.apart(4, ""));
            y.spoil(1);
            y.night(1);
            s.is("ask(0) while gate 1 is broken", y.ask(0), 99);
            y.undo();
            y.night(0);
            s.is("tolls(2, 3) while gate 0 is broken", y.tolls(2, 3), 7);
            s.is("tolls(0, 1) while gate 0 is broken", y.tolls(0, 1), 0);
        });
        s.of(9, "NONE", () -> {
            s.is("tolls(0, 2)", Due.with(beside("")).tolls(0, 2), NONE);
            s.is("no roads", Setups.empty().tolls(1, 0), NONE);
        });
        s.of(9, "-2 likewise", () -> {
            DaughtersGate x = Due.with(beside(""));
            s.noneSuch("the other", 3, p -> x.tolls(0, p));
            s.noneSuch("the first", 3, p -> x.tolls(p, 0));
            s.noneSuch("both", 3, p -> x.tolls(p, p));
            s.is("no SHIRE", Setups.bare().tolls(0, 0), -2);
        });
    }

    private void ways() {
        String two = beside(Land.farmer(0, 1, 1) + Land.farmer(0, 2, 1));
        s.of(10, "ROAD i (from 0) of the WAY (II) of a FARMER now", () -> {
            DaughtersGate x = Due.with(Land.chain() + Land.farmer(5, 0, 1));
            for (int i = 0; i < 5; i++) {
                s.is("way(0, " + i + ")", x.way(0, i), 4 - i);
            }
            DaughtersGate y = Due.with(two);
            s.is("ahead of a night", y.way(0, 0), 0);
            y.night(1);
            s.is("now", y.way(0, 0), 1);
        });
        s.of(10, "NONE: there is none such", () -> {
            DaughtersGate x = Due.with(Land.chain() + Land.farmer(5, 0, 1));
            for (int i : new int[] {-1, 5, 6, MIN, MAX}) {
                s.is("way(0, " + i + ")", x.way(0, i), NONE);
            }
            s.is("no WAY", Due.with(two).way(1, 0), NONE);
        });
        s.of(10, "-2: there is none such FARMER", () -> {
            DaughtersGate x = Due.with(two);
            s.noneSuch("way of", 2, f -> x.way(f, 0));
            s.noneSuch("way, NONE, of", 2, f -> x.way(f, -1));
            s.is("six", Setups.full().way(6, 0), -2);
            s.is("no SHIRE", Setups.bare().way(0, 0), -2);
        });
        s.of(11, "What a FARMER PAYS a day now", () -> {
            s.is("the most there can be", Due.with(dearest()).pays(5), 4455);
            DaughtersGate x = Due.with(two);
            s.is("pays(0)", x.pays(0), 5);
            x.night(1);
            s.is("pays(0) now", x.pays(0), 0);
        });
        s.of(11, "NONE: he has no WAY", () -> {
            DaughtersGate x = Due.with(two);
            s.is("pays(1)", x.pays(1), NONE);
            x.times(1, 0);
            s.is("pays(1) of one who never goes", x.pays(1), NONE);
        });
        s.of(11, "-2: there is none such", () -> {
            DaughtersGate x = Due.with(two);
            s.noneSuch("pays", 2, x::pays);
            s.is("six", Setups.full().pays(6), -2);
            s.is("no SHIRE", Setups.bare().pays(0), -2);
        });
        s.of(12, "FARMERS whose WAY goes by a ROAD now, as bits", () -> {
            DaughtersGate x = Due.with(dearest());
            s.is("all", x.uses(4), 63);
            DaughtersGate y = Due.with(two);
            s.is("uses(0)", y.uses(0), 1);
            s.is("nobody", y.uses(1), 0);
            y.night(1);
            s.is("uses(0) now", y.uses(0), 0);
            s.is("uses(1) now", y.uses(1), 1);
            DaughtersGate z = Due.with(Land.head(2) + Land.road(0, 1, 1) + Land.farmer(0, 1, 9) + Land.farmer(1, 0, 0));
            s.is("a ROAD without a GATE, one who never goes", z.uses(0), 3);
        });
        s.of(12, "-2: there is none such", () -> {
            DaughtersGate x = Due.with(two);
            s.noneSuch("uses", 2, x::uses);
            s.is("eight", Setups.full().uses(8), -2);
            s.is("ROAD 7", Setups.full().uses(7) == -2 ? 0 : 1, 1);
            s.is("no SHIRE", Setups.bare().uses(0), -2);
        });
        s.of(25, "Miles of the WAY of a FARMER now", () -> {
            s.is("the most there can be", Due.with(dearest()).trip(0), 100);
            DaughtersGate x = Due.with(two);
            s.is("trip(0)", x.trip(0), 2);
            x.night(1);
            s.is("trip(0) now", x.trip(0), 3);
        });
        s.of(25, "NONE: he has none", () -> s.is("trip(1)", Due.with(two).trip(1), NONE));
        s.of(25, "-2: there is none such", () -> {
            DaughtersGate x = Due.with(two);
            s.noneSuch("trip", 2, x::trip);
            s.is("six", Setups.full().trip(6), -2);
            s.is("no SHIRE", Setups.bare().trip(0), -2);
        });
    }

    private void income() {
        s.of(13, "What all PAY a day now, together", () -> {
            s.is("the most there can be", Due.with(dearest()).income(), 26730);
            s.is("nobody", Due.with(Land.chain()).income(), 0);
            DaughtersGate x = Due.with(beside(Land.farmer(0, 1, 2) + Land.farmer(0, 2, 9) + Land.farmer(1, 0, 1)));
            s.is("one without a WAY", x.income(), 15);
            x.night(0);
            s.is("now", x.income(), 0);
        });
        s.of(13, "-2: there is no SHIRE", () -> s.refused("income()", Setups::bare, DaughtersGate::income, -2));
        s.of(14, "GATES that stand now (ROADS, as bits)", () -> {
            s.is("eight", Due.with(Probe.READER).gates(), 255);
            s.is("none", Due.with(Land.head(2) + Land.road(0, 1, 1)).gates(), 0);
            s.is("no ROADS", Setups.empty().gates(), 0);
            s.is("one is broken", Setups.busy().gates(), 119);
        });
        s.of(14, "-2 likewise", () -> s.refused("gates()", Setups::bare, DaughtersGate::gates, -2));
        s.of(15, "GATES that stand by which nobody's WAY goes, as bits", () -> {
            s.is("nobody lives there", Due.with(Probe.READER.replaceAll("farmer[^;]*;", "")).idle(), 255);
            s.is("all are gone by", Due.with(dearest()).idle(), 0);
            DaughtersGate x = Due.with(beside(Land.farmer(0, 1, 0)));
            s.is("one who never goes", x.idle(), 2);
            x.night(1);
            s.is("a broken one", x.idle(), 1);
        });
        s.of(15, "-2 likewise", () -> s.refused("idle()", Setups::bare, DaughtersGate::idle, -2));
    }

    private void losses() {
        s.of(16, "LOSS of a GATE: how much less all PAY, if it does not stand", () -> {
            DaughtersGate x = Due.with(dearest());
            s.is("the most there can be", Due.with(Land.head(2) + Land.gate(0, 1, 1, 99) + Land.farmer(0, 1, 9).repeat(6)).loss(0), 5346);
            s.is("one of five", x.loss(4), 5346);
            DaughtersGate y = Due.with(beside(Land.farmer(0, 1, 1)));
            s.is("the one he goes by", y.loss(0), 5);
            s.is("the one he doesn't go by", y.loss(1), 5);
            s.is("it changes nothing", y.income(), 5);
            DaughtersGate z = Due.with(Land.head(2) + Land.gate(0, 1, 1, 99) + Land.road(0, 1, 20) + Land.farmer(0, 1, 9));
            s.is("none", z.loss(0), 0);
        });
        s.of(16, "-2: there is none such that stands", () -> noGate("loss", DaughtersGate::loss));
        // Gates in a row, of 3, 4 and 4.
        String row = Land.head(5, 0, 0, 999, 0) + Land.gate(0, 1, 1, 3) + Land.gate(1, 2, 1, 4) + Land.gate(2, 3, 1, 4) + Land.dragoons(4, 0);
        s.of(17, "The GATE with most LOSS", () -> {
            DaughtersGate x = Due.with(row + Land.farmer(0, 3, 1));
            s.is("first()", x.first(), 1);
            x.rate(2, 5);
            s.is("first() of one more", x.first(), 2);
            s.is("without LOSS", Due.with(row).first(), 0);
        });
        s.of(17, "the first of several", () -> {
            DaughtersGate x = Due.with(row + Land.farmer(0, 3, 1));
            s.is("1 and 2", x.first(), 1);
            x.rate(0, 4);
            s.is("all", x.first(), 0);
        });
        s.of(17, "NONE: none stands", () -> {
            s.is("no ROADS", Setups.empty().first(), NONE);
            s.is("no GATES", Due.with(Land.head(2) + Land.road(0, 1, 1)).first(), NONE);
            DaughtersGate x = Due.with(Land.head(3) + Land.gate(0, 1, 1, 1) + Land.dragoons(2, 0));
            s.is("one", x.first(), 0);
            x.night(0);
            s.is("it is broken", x.first(), NONE);
        });
        s.of(17, "-2: there is no SHIRE", () -> s.refused("first()", Setups::bare, DaughtersGate::first, -2));
    }

    private void spoils() {
        // Two ways of two gates each, all of 6, from 0 to 3: by 0 and 3, by 1 and 2.
        String ways = Land.head(5, 0, 0, 999, 0) + Land.gate(0, 1, 1, 6) + Land.gate(0, 2, 1, 6) + Land.gate(2, 3, 1, 6) + Land.gate(1, 3, 1, 6)
            + Land.farmer(0, 3, 1) + Land.dragoons(4, 0);
        s.of(18, "SPOIL: the least all PAY", () -> {
            DaughtersGate x = Due.with(ways);
            s.is("spoil(1)", x.spoil(1), 6);
            s.is("spoil(2)", x.spoil(2), 0);
            s.is("it changes nothing", x.gates(), 15);
        });
        s.of(18, "if n (0 .. 8) of those that stand did not", () -> {
            DaughtersGate x = Due.with(Probe.READER);
            s.is("spoil(0)", x.spoil(0), x.income());
            s.is("spoil(8)", x.spoil(8), 0);
            s.is("spoil(1)", x.spoil(1), x.income() - x.loss(x.first()));
            DaughtersGate y = Due.with(ways);
            y.night(3);
            s.is("spoil(0) of one broken", y.spoil(0), 6);
            s.is("spoil(1) of one broken", y.spoil(1), 0);
        });
        s.of(18, "(all, if there are fewer)", () -> {
            DaughtersGate x = Due.with(dearest());
            s.is("spoil(4)", x.spoil(4), 5346);
            for (int n = 5; n <= 8; n++) {
                s.is("spoil(" + n + ")", x.spoil(n), 0);
            }
            s.is("there are none", Setups.empty().spoil(8), 0);
        });
        s.of(18, "-2: there is no such n", () -> {
            DaughtersGate x = Due.with(dearest());
            s.noneSuch("spoil", 9, x::spoil);
        });
        s.of(18, "no SHIRE", () -> s.refused("spoil(0)", Setups::bare, x -> x.spoil(0), -2));
        s.of(19, "Which, as bits", () -> {
            DaughtersGate x = Due.with(Probe.READER);
            s.is("spoils(0)", x.spoils(0), 0);
            s.is("spoils(1)", x.spoils(1), 1 << x.first());
            s.is("spoils(8)", x.spoils(8), 255);
            DaughtersGate y = Due.with(dearest());
            s.is("spoils(5) of five", y.spoils(5), 31);
            s.is("spoils(8) of five", y.spoils(8), 31);
            DaughtersGate z = Due.with(ways);
            z.night(3);
            s.is("spoils(1) of one broken", z.spoils(1), 1);
            s.is("spoils(8) of one broken", z.spoils(8), 7);
        });
        s.of(19, "the least set of so many by which it is", () -> {
            DaughtersGate x = Due.with(ways);
            s.is("spoils(1)", x.spoils(1), 1);
            s.is("spoils(2): 1 and 2, not 0 and 3", x.spoils(2), 6);
            s.is("spoils(3)", x.spoils(3), 7);
        });
        s.of(19, "-2 likewise", () -> {
            DaughtersGate x = Due.with(dearest());
            s.noneSuch("spoils", 9, x::spoils);
            s.refused("spoils(0)", Setups::bare, y -> y.spoils(0), -2);
        });
    }

    private void angry() {
        s.of(20, "ANGRY: FARMERS who PAY more than their courage, as bits", () -> {
            DaughtersGate x = Due.with(beside(Land.farmer(0, 1, 1, 4, 0) + Land.farmer(0, 1, 1, 5, 0) + Land.farmer(0, 1, 1, 6, 0)
                + Land.farmer(0, 2, 9, 0, 0) + Land.farmer(0, 1, 0, 0, 0) + Land.farmer(1, 0, 9, 44, 0)));
            s.is("angry()", x.angry(), 33);
            x.night(1);
            s.is("now", x.angry(), 0);
            s.is("all", Due.with(dearest()).angry(), 63);
            s.is("nobody lives there", Setups.empty().angry(), 0);
        });
        s.of(20, "-2: there is no SHIRE", () -> s.refused("angry()", Setups::bare, DaughtersGate::angry, -2));
        s.of(24, "The FARMER who PAYS most above his courage", () -> {
            DaughtersGate x = Due.with(beside(Land.farmer(0, 1, 1, 4, 0) + Land.farmer(0, 1, 9, 44, 0) + Land.farmer(0, 1, 2, 8, 0)));
            s.is("furious()", x.furious(), 2);
            x.times(0, 2);
            s.is("furious() then", x.furious(), 0);
        });
        s.of(24, "the first of several", () -> {
            s.is("all", Due.with(dearest()).furious(), 0);
            DaughtersGate x = Due.with(beside(Land.farmer(0, 1, 1, 5, 0) + Land.farmer(0, 1, 1, 4, 0) + Land.farmer(0, 1, 9, 44, 0)));
            s.is("1 and 2", x.furious(), 1);
        });
        s.of(24, "NONE: nobody is ANGRY", () -> {
            s.is("as much as his courage", Due.with(beside(Land.farmer(0, 1, 1, 5, 0))).furious(), NONE);
            s.is("no WAY", Due.with(beside(Land.farmer(0, 2, 9, 0, 0))).furious(), NONE);
            s.is("nobody lives there", Setups.empty().furious(), NONE);
        });
        s.of(24, "-2: there is no SHIRE", () -> s.refused("furious()", Setups::bare, DaughtersGate::furious, -2));
    }

    private void asks() {
        String one = Land.head(3) + Land.gate(0, 1, 1, 50) + Land.dragoons(2, 0);
        s.of(21, "ASK: the toll (1 .. 99) of a GATE that stands by which all PAY most", () -> {
            DaughtersGate x = Due.with(one + Land.farmer(0, 1, 1));
            s.is("the greatest", x.ask(0), 99);
            s.is("its toll stays", x.road(0, 3), 50);
            s.is("what he pays stays", x.pays(0), 50);
            DaughtersGate y = Due.with(one + Land.gate(0, 1, 2, 98) + Land.farmer(0, 1, 1));
            s.is("beside one of 98", y.ask(0), 98);
            DaughtersGate z = Due.with(one + Land.gate(0, 1, 2, 1) + Land.farmer(0, 1, 1));
            s.is("beside one of 1", z.ask(0), 1);
            // By the road without a gate, and back by gate 1, it is 1 to place 1.
            DaughtersGate w = Due.with(Land.head(4) + Land.gate(0, 1, 1, 50) + Land.gate(1, 2, 1, 1) + Land.road(0, 2, 20)
                + Land.farmer(0, 2, 9) + Land.farmer(0, 1, 1));
            s.is("a way round it", w.ask(0), 1);
            // 100 by another way; of it 30 and 40 are left to the gates ahead and behind.
            for (int back = 0; back < 2; back++) {
                DaughtersGate v = Due.with(Land.head(5) + Land.gate(0, 1, 1, 30) + Land.gate(1, 2, 1, 50) + Land.gate(2, 3, 1, 40)
                    + Land.gate(0, 4, 1, 80) + Land.gate(4, 3, 1, 20) + Land.farmer(back * 3, 3 - back * 3, 1));
                s.is("what is left, " + back, v.ask(1), 30);
                s.is("what it brings, " + back, v.asks(1), 100);
            }
        });
        s.of(21, "the least of several", () -> {
            s.is("nobody goes", Due.with(one).ask(0), 1);
            s.is("a ROAD without a GATE beside it", Due.with(one + Land.road(0, 1, 9) + Land.farmer(0, 1, 9)).ask(0), 1);
            s.is("17 and all above", Due.with(one + Land.gate(0, 1, 9, 17) + Land.farmer(0, 1, 9)).ask(0), 17);
        });
        s.of(21, "-2: there is none such", () -> noGate("ask", DaughtersGate::ask));
        s.of(22, "What all PAY by it", () -> {
            s.is("the greatest toll", Due.with(one + Land.farmer(0, 1, 9).repeat(6)).asks(0), 5346);
            s.is("17", Due.with(one + Land.gate(0, 1, 9, 17) + Land.farmer(0, 1, 9)).asks(0), 153);
            s.is("nobody goes", Due.with(one).asks(0), 0);
            s.is("a ROAD without a GATE beside it", Due.with(one + Land.road(0, 1, 9) + Land.farmer(0, 1, 9)).asks(0), 0);
            s.is("one without a WAY", Due.with(one + Land.farmer(0, 1, 1) + Land.farmer(0, 2, 9)).asks(0), 99);
            s.is("he goes on", Due.with(Land.chain() + Land.farmer(0, 5, 1)).asks(2), 495);
            s.is("he goes on, back", Due.with(Land.chain() + Land.farmer(5, 0, 1)).asks(2), 495);
            s.is("others, too", Due.with(Land.chain() + Land.farmer(0, 1, 1) + Land.farmer(2, 3, 1)).asks(0), 198);
            DaughtersGate x = Due.with(one + Land.farmer(0, 1, 1));
            x.asks(0);
            s.is("its toll stays", x.road(0, 3), 50);
        });
        s.of(22, "-2 likewise", () -> noGate("asks", DaughtersGate::asks));
        s.of(23, "QUIET: the greatest toll (1 .. 99) of it by which nobody is ANGRY", () -> {
            int[][] due = {{1, 1}, {2, 2}, {98, 98}, {99, 99}, {100, 99}, {999, 99}};
            for (int[] d : due) {
                s.is("courage " + d[0], Due.with(one + Land.farmer(0, 1, 1, d[0], 0)).quiet(0), d[1]);
            }
            s.is("9 times, courage 17", Due.with(one + Land.farmer(0, 1, 9, 17, 0)).quiet(0), 1);
            s.is("9 times, courage 18", Due.with(one + Land.farmer(0, 1, 9, 18, 0)).quiet(0), 2);
            s.is("another way", Due.with(one + Land.gate(0, 1, 2, 7) + Land.farmer(0, 1, 1, 7, 0)).quiet(0), 99);
            s.is("nobody lives there", Due.with(one).quiet(0), 99);
            s.is("six of them", Due.with(one + Land.farmer(0, 1, 9, 891, 0).repeat(6)).quiet(0), 99);
            s.is("one of six", Due.with(one + Land.farmer(0, 1, 9, 891, 0).repeat(5) + Land.farmer(1, 0, 9, 890, 0)).quiet(0), 98);
            for (int back = 0; back < 2; back++) {
                String far = Land.farmer(back * 5, 5 - back * 5, 1, 400, 0);
                s.is("he goes on, " + back, Due.with(Land.chain() + far).quiet(2), 4);
            }
            DaughtersGate x = Due.with(one + Land.farmer(0, 1, 1, 9, 0));
            x.quiet(0);
            s.is("its toll stays", x.road(0, 3), 50);
        });
        s.of(23, "NONE: by none", () -> {
            s.is("courage 0", Due.with(one + Land.farmer(0, 1, 1, 0, 0)).quiet(0), NONE);
            s.is("9 times, courage 8", Due.with(one + Land.farmer(0, 1, 9, 8, 0)).quiet(0), NONE);
            s.is("another is ANGRY of another", Due.with(Land.chain() + Land.farmer(2, 3, 1, 98, 0)).quiet(0), NONE);
            s.is("another is not", Due.with(Land.chain() + Land.farmer(2, 3, 1, 99, 0)).quiet(0), 99);
        });
        s.of(23, "-2 likewise", () -> noGate("quiet", DaughtersGate::quiet));
    }

    void all() {
        miles();
        tolls();
        ways();
        income();
        losses();
        spoils();
        angry();
        asks();
    }
}
