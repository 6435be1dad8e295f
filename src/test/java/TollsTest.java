/** Promises 8 to 31, 35 to 38, 52, 53, 59 and 60: ways, tolls, what gates bring, rounds, where dragoons should lie. */
public final class TollsTest {
    private static final Due due = new Due();
    static final String LAND = "shire places 5 has 100 owes 30 builds 20 walk 4;"
        + "road 0 to 1 miles 3 gate 5;road 1 to 2 miles 4 gate 7;road 0 to 2 miles 9 gate 12;road 2 to 3 miles 2;"
        + "farmer at 0 to 2 times 2 courage 20 odds 10;farmer at 1 to 3 times 3 courage 21 odds 50;"
        + "farmer at 4 to 0 times 1 courage 0 odds 0;";
    static final String GUARDED = LAND + "dragoons at 3 pace 2;";
    private static final String EMPTY = "shire places 2 has 5 owes 0 builds 1 walk 0;";

    private static void ways() {
        DaughtersGate x = Due.with(GUARDED);
        due.is("miles(0, 2)", x.miles(0, 2), 7);
        due.is("miles(3, 0)", x.miles(3, 0), 9);
        due.is("miles(3, 3)", x.miles(3, 3), 0);
        due.is("miles(0, 4)", x.miles(0, 4), -1);
        due.is("miles(0, 5)", x.miles(0, 5), -2);
        due.is("miles(-1, 0)", x.miles(-1, 0), -2);
        due.is("tolls(0, 2)", x.tolls(0, 2), 12);
        due.is("tolls(3, 1)", x.tolls(3, 1), 7);
        due.is("tolls(3, 2)", x.tolls(3, 2), 0);
        due.is("tolls(4, 4)", x.tolls(4, 4), 0);
        due.is("tolls(4, 0)", x.tolls(4, 0), -1);
        due.is("tolls(0, 5)", x.tolls(0, 5), -2);
        due.is("tolls(0, -1)", x.tolls(0, -1), -2);
        int[][] rows = {{0, 1, -1}, {1, 3, -1}, {-1, -1, -1}};
        for (int f = 0; f < 3; f++) {
            for (int i = 0; i < 3; i++) {
                due.is("way(" + f + ", " + i + ")", x.way(f, i), rows[f][i]);
            }
        }
        due.is("way(0, -1)", x.way(0, -1), -1);
        due.is("way(3, 0)", x.way(3, 0), -2);
        due.is("way(-1, 0)", x.way(-1, 0), -2);
        int[] uses = {1, 3, 0, 2};
        for (int r = 0; r < 4; r++) {
            due.is("uses(" + r + ")", x.uses(r), uses[r]);
        }
        due.is("uses(4)", x.uses(4), -2);
        due.is("uses(-1)", x.uses(-1), -2);
        due.is("trip(0)", x.trip(0), 7);
        due.is("trip(1)", x.trip(1), 6);
        due.is("trip(2)", x.trip(2), -1);
        due.is("trip(3)", x.trip(3), -2);
    }

    private static void leastRow() {
        // Four ways of like tolls and miles: the least row of numbers is 1 2, not 3 alone.
        DaughtersGate x = Due.with("shire places 4 has 0 owes 0 builds 1 walk 0;road 0 to 2 miles 1 gate 2;road 0 to 1 miles 2 gate 1;"
            + "road 1 to 3 miles 3 gate 1;road 0 to 3 miles 5 gate 2;road 1 to 3 miles 3 gate 1;farmer at 0 to 3 times 0 courage 0 odds 0;");
        due.is("least row 0", x.way(0, 0), 1);
        due.is("least row 1", x.way(0, 1), 2);
        due.is("least row 2", x.way(0, 2), -1);
        due.is("one who never goes has a way", x.uses(1), 1);
        due.is("and pays nothing", x.pays(0), 0);
        // Fewest tolls come ahead of fewest miles.
        DaughtersGate y = Due.with("shire places 3 has 0 owes 0 builds 1 walk 0;road 0 to 2 miles 1 gate 3;road 0 to 1 miles 20 gate 1;"
            + "road 1 to 2 miles 20 gate 1;farmer at 2 to 0 times 9 courage 0 odds 0;");
        due.is("longer but cheaper", y.way(0, 0), 2);
        due.is("its tolls", y.pays(0), 18);
        due.is("its miles", y.trip(0), 40);
        due.is("fewest miles are others", y.miles(0, 2), 1);
    }

    private static void money() {
        DaughtersGate x = Due.with(GUARDED);
        due.is("pays(0)", x.pays(0), 24);
        due.is("pays(1)", x.pays(1), 21);
        due.is("pays(2)", x.pays(2), -1);
        due.is("pays(3)", x.pays(3), -2);
        due.is("pays(-1)", x.pays(-1), -2);
        due.is("income()", x.income(), 45);
        due.is("gates()", x.gates(), 7);
        due.is("idle()", x.idle(), 4);
        int[] losses = {10, 35, 30, -2, -2};
        for (int g = 0; g < 5; g++) {
            due.is("loss(" + g + ")", x.loss(g), losses[g]);
        }
        due.is("loss(-1)", x.loss(-1), -2);
        due.is("first()", x.first(), 1);
        int[] spoil = {45, 10, 0, 0};
        int[] spoils = {0, 2, 3, 7};
        for (int n = 0; n <= 8; n++) {
            due.is("spoil(" + n + ")", x.spoil(n), spoil[Math.min(n, 3)]);
            due.is("spoils(" + n + ")", x.spoils(n), spoils[Math.min(n, 3)]);
        }
        due.is("spoil(9)", x.spoil(9), -2);
        due.is("spoil(-1)", x.spoil(-1), -2);
        due.is("spoils(9)", x.spoils(9), -2);
        due.is("spoils(-1)", x.spoils(-1), -2);
        due.is("angry()", x.angry(), 1);
        due.is("furious()", x.furious(), 0);
    }

    private static void asked() {
        DaughtersGate x = Due.with(GUARDED);
        int[] ask = {5, 17, 12, -2, -2};
        int[] asks = {45, 75, 45, -2, -2};
        int[] quiet = {3, 5, 10, -2, -2};
        for (int g = 0; g < 5; g++) {
            due.is("ask(" + g + ")", x.ask(g), ask[g]);
            due.is("asks(" + g + ")", x.asks(g), asks[g]);
            due.is("quiet(" + g + ")", x.quiet(g), quiet[g]);
        }
        due.is("ask(-1)", x.ask(-1), -2);
        due.is("the toll stays", x.road(1, 3), 7);
        due.is("the income stays", x.income(), 45);
        DaughtersGate only = Due.with("shire places 2 has 0 owes 0 builds 1 walk 0;road 0 to 1 miles 1 gate 50;"
            + "farmer at 0 to 1 times 1 courage 98 odds 0;farmer at 1 to 0 times 1 courage 99 odds 0;");
        due.is("the only road asks most", only.ask(0), 99);
        due.is("and brings", only.asks(0), 198);
        due.is("quiet at the courage", only.quiet(0), 98);
        only.times(0, 0);
        due.is("quiet at the greatest", only.quiet(0), 99);
        DaughtersGate meek = Due.with("shire places 2 has 0 owes 0 builds 1 walk 0;road 0 to 1 miles 1 gate 50;"
            + "farmer at 0 to 1 times 1 courage 0 odds 0;");
        due.is("by no toll", meek.quiet(0), -1);
        DaughtersGate nobody = Due.with(EMPTY + "road 0 to 1 miles 1 gate 50;");
        due.is("the least of several tolls", nobody.ask(0), 1);
        due.is("nobody pays", nobody.asks(0), 0);
        due.is("nobody is angry", nobody.quiet(0), 99);
        due.is("nobody is furious", nobody.furious(), -1);
        due.is("a gate without loss is first", nobody.first(), 0);
    }

    private static void several() {
        DaughtersGate x = Due.with("shire places 3 has 0 owes 0 builds 1 walk 5;road 0 to 1 miles 2;road 1 to 2 miles 1 gate 3;road 0 to 1 miles 1 gate 4;"
            + "farmer at 1 to 2 times 3 courage 5 odds 0;farmer at 2 to 1 times 2 courage 2 odds 0;farmer at 0 to 2 times 3 courage 5 odds 0;");
        due.is("all are angry", x.angry(), 7);
        due.is("first of several furious", x.furious(), 0);
        x.times(0, 2);
        due.is("another is furious", x.furious(), 1);
        due.is("first of several barns", x.barns(), 0);
        due.is("idle gate", x.idle(), 4);
        due.is("first with loss", x.first(), 1);
    }

    private static void barnsAndHorns() {
        DaughtersGate x = Due.with(GUARDED);
        int[] barn = {3, 3, 2, 0, 4};
        for (int p = 0; p < 5; p++) {
            due.is("barn(" + p + ")", x.barn(p), barn[p]);
        }
        due.is("barn(5)", x.barn(5), -2);
        due.is("barn(-1)", x.barn(-1), -2);
        due.is("barns()", x.barns(), 0);
        due.is("barns() elsewhere", Due.with("shire places 2 has 0 owes 0 builds 1 walk 60;farmer at 1 to 0 times 0 courage 0 odds 0;").barns(), 1);
        due.is("horn(3, 6)", x.horn(3, 6), 14);
        due.is("horn(3, 5)", x.horn(3, 5), 12);
        due.is("horn(4, 99)", x.horn(4, 99), 16);
        due.is("horn(0, 0)", x.horn(0, 0), 1);
        due.is("horn(0, 100)", x.horn(0, 100), -2);
        due.is("horn(0, -1)", x.horn(0, -1), -2);
        due.is("horn(5, 1)", x.horn(5, 1), -2);
    }

    private static void rounds() {
        DaughtersGate x = Due.with(GUARDED);
        x.loss(0);
        due.is("rounds(1, 13, 0)", x.rounds(1, 13, 0), 0);
        due.is("round(0, 6)", x.round(0, 6), 24);
        due.is("rounds(0, 6, 0)", x.rounds(0, 6, 0), 1);
        due.is("rounds(0, 6, 1)", x.rounds(0, 6, 1), 2);
        due.is("rounds(0, 6, 2)", x.rounds(0, 6, 2), -1);
        due.is("rounds(0, 6, -1)", x.rounds(0, 6, -1), -1);
        due.is("round(1, 11): home in the set", x.round(1, 11), 24);
        due.is("rounds(1, 11, 0)", x.rounds(1, 11, 0), 0);
        due.is("rounds(1, 11, 1)", x.rounds(1, 11, 1), 3);
        due.is("round(1, 12)", x.round(1, 12), 14);
        due.is("round(0, 1)", x.round(0, 1), 0);
        due.is("rounds(0, 1, 0)", x.rounds(0, 1, 0), -1);
        due.is("round(0, 0)", x.round(0, 0), 0);
        due.is("round(0, 18): no way", x.round(0, 18), -1);
        due.is("rounds(0, 18, 0)", x.rounds(0, 18, 0), -1);
        due.is("round(2, 16)", x.round(2, 16), 0);
        due.is("round(0, 32)", x.round(0, 32), -2);
        due.is("round(0, -1)", x.round(0, -1), -2);
        due.is("round(3, 1)", x.round(3, 1), -2);
        due.is("rounds(0, 32, 0)", x.rounds(0, 32, 0), -2);
        due.is("rounds(3, 1, 0)", x.rounds(3, 1, 0), -2);
        // A square: by 1 3 2 it costs 4, by 1 2 3 more.
        DaughtersGate y = Due.with("shire places 4 has 0 owes 0 builds 1 walk 0;road 0 to 1 miles 1 gate 1;road 1 to 3 miles 1 gate 1;"
            + "road 3 to 2 miles 1 gate 1;road 2 to 0 miles 1 gate 1;farmer at 0 to 1 times 5 courage 0 odds 0;");
        due.is("round a square", y.round(0, 14), 4);
        due.is("square 0", y.rounds(0, 14, 0), 1);
        due.is("square 1", y.rounds(0, 14, 1), 3);
        due.is("square 2", y.rounds(0, 14, 2), 2);
    }

    private static void lies() {
        DaughtersGate x = Due.with(GUARDED);
        due.is("lie()", x.lie(), 2);
        due.is("lies()", x.lies(), 10);
        due.is("sure()", x.sure(), 0);
        due.is("rests()", x.rests(), 0);
        DaughtersGate far = Due.with(LAND + "dragoons at 0 pace 60;");
        due.is("lie() of fast ones", far.lie(), 0);
        due.is("lies() of fast ones", far.lies(), 0);
        due.is("sure() from the far place", far.sure(), 0);
        due.is("rests() of fast ones", far.rests(), 12);
        DaughtersGate none = Due.with("shire places 2 has 5 owes 0 builds 1 walk 0;road 0 to 1 miles 1;");
        due.is("lie() without gates", none.lie(), 0);
        due.is("lies() without gates", none.lies(), 0);
        due.is("sure() without gates", none.sure(), -1);
        due.is("rests() without gates", none.rests(), 0);
        due.is("first() without gates", none.first(), -1);
        due.is("idle() without gates", none.idle(), 0);
        DaughtersGate shut = Due.with("shire places 2 has 5 owes 0 builds 1 walk 0;road 0 to 1 miles 1 gate 1;dragoons at 0 pace 1;");
        due.is("sure() if safe from nowhere", shut.sure(), -1);
        // One gate between 1 and 2, safe only from 0: all pairs but that one rest.
        DaughtersGate one = Due.with("shire places 3 has 5 owes 0 builds 1 walk 0;road 0 to 1 miles 5;road 1 to 2 miles 1 gate 4;"
            + "farmer at 1 to 2 times 1 courage 0 odds 0;dragoons at 0 pace 4;");
        due.is("rests() of one gate", one.rests(), 2);
        due.is("lie() of one gate", one.lie(), 1);
        due.is("lies() of one gate", one.lies(), 0);
        due.is("sure() of one gate", one.sure(), 1);
        // The same from the other side: safe only from 2.
        DaughtersGate other = Due.with("shire places 3 has 5 owes 0 builds 1 walk 0;road 2 to 1 miles 5;road 1 to 0 miles 1 gate 4;"
            + "farmer at 1 to 0 times 1 courage 0 odds 0;dragoons at 0 pace 4;");
        due.is("rests() of the other side", other.rests(), 2);
        due.is("lie() of the other side", other.lie(), 0);
        // The gate is kept from its two ends alone; the other places are apart.
        DaughtersGate alone = Due.with("shire places 4 has 5 owes 0 builds 1 walk 0;road 0 to 1 miles 5 gate 4;road 2 to 3 miles 1;"
            + "farmer at 1 to 0 times 1 courage 0 odds 0;dragoons at 0 pace 4;");
        due.is("rests() by the ends alone", alone.rests(), 2);
        // Two lands apart with a gate each, of one loss: from each place the other one is safe.
        DaughtersGate slow = Due.with("shire places 4 has 5 owes 0 builds 1 walk 0;road 0 to 1 miles 5 gate 3;road 2 to 3 miles 1 gate 3;"
            + "farmer at 0 to 1 times 1 courage 0 odds 0;farmer at 2 to 3 times 1 courage 0 odds 0;dragoons at 0 pace 0;");
        due.is("lie() first of several", slow.lie(), 0);
        due.is("lies() of one loss", slow.lies(), 3);
        due.is("rests() of two lands", slow.rests(), 0);
        due.is("sure() first of several", slow.sure(), 0);
    }

    private static void rewards() {
        DaughtersGate x = Due.with(GUARDED);
        due.is("inform(100, 5)", x.inform(100, 5), 4);
        due.is("inform(105, 5)", x.inform(105, 5), 4);
        due.is("inform(106, 5)", x.inform(106, 5), 6);
        due.is("inform(121, 5)", x.inform(121, 5), 7);
        due.is("inform(0, 0)", x.inform(0, 0), 0);
        due.is("inform(1, 0)", x.inform(1, 0), 7);
        due.is("inform(9999, 99)", x.inform(9999, 99), 7);
        due.is("inform(10000, 1)", x.inform(10000, 1), -2);
        due.is("inform(-1, 1)", x.inform(-1, 1), -2);
        due.is("inform(1, 100)", x.inform(1, 100), -2);
        due.is("inform(1, -1)", x.inform(1, -1), -2);
        due.is("dear(5): one without a way", x.dear(5), 1);
        due.is("dear(100)", x.dear(100), -2);
        due.is("dear(-1)", x.dear(-1), -2);
        due.is("dear() of nobody", Due.with(EMPTY).dear(1), -1);
        DaughtersGate y = Due.with("shire places 2 has 0 owes 0 builds 1 walk 0;road 0 to 1 miles 1 gate 99;"
            + "farmer at 0 to 1 times 9 courage 9 odds 1;farmer at 1 to 0 times 8 courage 9 odds 1;");
        due.is("dear(1)", y.dear(1), 793);
        due.is("dear(12)", y.dear(12), 9505);
        due.is("dear(13)", y.dear(13), -1);
        due.is("dear(0)", y.dear(0), 1);
        y.rate(0, 51);
        y.times(1, 7);
        due.is("dear(28) at the edge", y.dear(28), 9997);
        y.times(1, 1);
        y.times(0, 1);
        y.rate(0, 99);
        due.is("dear(99)", y.dear(99), 9802);
        DaughtersGate z = Due.with("shire places 4 has 0 owes 0 builds 1 walk 0;road 0 to 1 miles 1 gate 99;road 1 to 2 miles 1 gate 2;"
            + "farmer at 0 to 2 times 1 courage 9 odds 1;");
        due.is("dear(99) of 9,999 is above", z.dear(99), -1);
        z.rate(1, 1);
        due.is("dear(99) of 9,900", z.dear(99), 9901);
    }

    private static void changed() {
        DaughtersGate x = Due.with(GUARDED);
        due.is("rate(1, 17)", x.rate(1, 17), 7);
        due.is("income by it", x.income(), 75);
        due.is("its toll", x.road(1, 3), 17);
        due.is("rate(1, 7)", x.rate(1, 7), 17);
        due.is("rate(1, 0)", x.rate(1, 0), -2);
        due.is("rate(1, 100)", x.rate(1, 100), -2);
        due.is("rate(3, 5): no gate", x.rate(3, 5), -2);
        due.is("rate(4, 5)", x.rate(4, 5), -2);
        due.is("rate(-1, 5)", x.rate(-1, 5), -2);
        due.is("times(0, 9)", x.times(0, 9), 2);
        due.is("income by them", x.income(), 129);
        due.is("farmer(0, 2)", x.farmer(0, 2), 9);
        due.is("times(0, 2)", x.times(0, 2), 9);
        due.is("times(0, 10)", x.times(0, 10), -2);
        due.is("times(0, -1)", x.times(0, -1), -2);
        due.is("times(3, 1)", x.times(3, 1), -2);
        due.is("times(-1, 1)", x.times(-1, 1), -2);
        x.night(-1);
        due.is("rate behind an act", x.rate(1, 8), -5);
        due.is("times behind an act", x.times(0, 1), -5);
        due.is("rate(3, 5) behind an act", x.rate(3, 5), -2);
        due.is("times(3, 1) behind an act", x.times(3, 1), -2);
        x.undo();
        due.is("rate again", x.rate(1, 8), 7);
        due.is("times again", x.times(0, 1), 2);
    }

    private static void noShire() {
        DaughtersGate x = new DaughtersGate();
        long[] all = {x.miles(0, 0), x.tolls(0, 0), x.way(0, 0), x.pays(0), x.uses(0), x.income(), x.gates(), x.idle(), x.loss(0),
            x.first(), x.spoil(0), x.spoils(0), x.angry(), x.ask(0), x.asks(0), x.quiet(0), x.furious(), x.trip(0), x.barn(0),
            x.barns(), x.horn(0, 0), x.bond(0), x.round(0, 0), x.rounds(0, 0, 0), x.dragoons(), x.safe(0), x.open(), x.lie(),
            x.lies(), x.sure(), x.rests(), x.inform(0, 0), x.dear(0), x.rate(0, 1), x.times(0, 1)};
        for (int i = 0; i < all.length; i++) {
            due.is("no shire: call " + i, all[i], -2);
        }
    }

    public static void main(String[] args) {
        ways();
        leastRow();
        money();
        asked();
        several();
        barnsAndHorns();
        rounds();
        lies();
        rewards();
        changed();
        noShire();
        due.close("tolls");
    }
}
