/** Promises 29, 32 to 34, 39 to 48, 57 and 58: nights, the trust, plans, rows that are judged, nights drawn. */
public final class NightsTest {
    private static final Due due = new Due();
    private static final String LAND = TollsTest.GUARDED;
    // One gate of toll 5 that one passes once a day, with dragoons where no road goes.
    private static final String GATE = "road 1 to 0 miles 1 gate 5;farmer at 0 to 1 times 1 courage 9 odds 0;dragoons at 2 pace 60;";

    private static String trust(int has, int owes, int builds) {
        return "shire places 3 has " + has + " owes " + owes + " builds " + builds + " walk 0;";
    }

    private static void standing(String when, DaughtersGate x, int... now) {
        for (int what = 0; what < 5; what++) {
            due.is(when + ": now(" + what + ")", x.now(what), now[what]);
        }
        due.is(when + ": acts", x.count(6), now[0]);
    }

    private static void oneNight() {
        DaughtersGate x = Due.with(LAND);
        standing("at first", x, 0, 100, 0, 0, 0);
        due.is("dragoons()", x.dragoons(), 3);
        due.is("open()", x.open(), 1);
        int[] safe = {1, 0, 0, -2, -2};
        for (int g = 0; g < 5; g++) {
            due.is("safe(" + g + ")", x.safe(g), safe[g]);
        }
        due.is("safe(-1)", x.safe(-1), -2);
        due.is("night(1): not safe", x.night(1), -5);
        due.is("night(3): no gate", x.night(3), -2);
        due.is("night(4)", x.night(4), -2);
        due.is("night(-2)", x.night(-2), -2);
        standing("nothing happened", x, 0, 100, 0, 0, 0);
        due.is("down(0) while it stands", x.down(0), -1);
        due.is("night(0)", x.night(0), 35);
        standing("one night", x, 1, 105, 0, 1, 0);
        due.is("down(0)", x.down(0), 1);
        due.is("down(1)", x.down(1), -1);
        due.is("down(3): no gate", x.down(3), -2);
        due.is("down(4)", x.down(4), -2);
        due.is("down(-1)", x.down(-1), -2);
        due.is("road(0, 3) of a broken gate", x.road(0, 3), 5);
        due.is("road(0, 4) of a broken gate", x.road(0, 4), 0);
        due.is("gates()", x.gates(), 6);
        due.is("loss(0) of a broken gate", x.loss(0), -2);
        due.is("ask(0) of a broken gate", x.ask(0), -2);
        due.is("quiet(0) of a broken gate", x.quiet(0), -2);
        due.is("safe(0) of a broken gate", x.safe(0), -2);
        due.is("pays(0)", x.pays(0), 14);
        due.is("tolls(0, 2)", x.tolls(0, 2), 7);
        due.is("dragoons() at the lesser end", x.dragoons(), 0);
        due.is("open() from there", x.open(), 2);
        due.is("night(0) again", x.night(0), -5);
        due.is("night(2) near dragoons", x.night(2), -5);
        due.is("now(5)", x.now(5), -2);
        due.is("now(-1)", x.now(-1), -2);
    }

    private static void setUpAgain() {
        DaughtersGate x = Due.with(LAND);
        x.night(0);
        due.is("night(-1)", x.night(-1), 35);
        standing("set up again", x, 2, 90, 0, 0, 1);
        due.is("down(0)", x.down(0), -1);
        due.is("gates()", x.gates(), 7);
        due.is("dragoons() stay", x.dragoons(), 0);
        due.is("income() with it", x.income(), 45);
        due.is("undo()", x.undo(), 1);
        standing("one taken back", x, 1, 105, 0, 1, 0);
        due.is("undo() again", x.undo(), 0);
        standing("all taken back", x, 0, 100, 0, 0, 0);
        due.is("dragoons() are back", x.dragoons(), 3);
        due.is("undo() of nothing", x.undo(), -5);
        x.night(0);
        x.night(1);
        due.is("the oldest is set up first", x.now(3), 2);
        standing("two broken", x, 2, 55, 0, 2, 1);
        due.is("anew()", x.anew(), 2);
        due.is("anew() of nothing", x.anew(), 0);
        standing("anew", x, 0, 100, 0, 0, 0);
    }

    private static void money() {
        DaughtersGate just = Due.with(trust(0, 5, 50) + GATE);
        due.is("just enough", just.night(-1), 5);
        standing("just enough", just, 1, 0, 0, 0, 0);
        due.is("lasts() for ever", just.lasts(), -1);
        due.is("night(0)", just.night(0), 0);
        standing("gave up", just, 2, 0, 1, 1, 0);
        due.is("down(0) tonight counted", just.down(0), 1);
        due.is("dragoons() of road 1 to 0", just.dragoons(), 0);
        due.is("night(-1) behind it", just.night(-1), -5);
        due.is("night(1) is none such", just.night(1), -2);
        due.is("lasts() behind it", just.lasts(), 0);
        due.is("fewest() behind it", just.fewest(), 0);
        due.is("plan(0) behind it", just.plan(0), -3);
        due.is("bond(60) behind it", just.bond(60), 0);
        due.is("open() behind it", just.open(), 0);
        due.is("drawn behind it", just.drawn(1, 5, 1), 1);
        due.is("luck behind it", just.luck(1, 7, 5), 7);
        DaughtersGate poor = Due.with(trust(10, 5, 50) + "road 0 to 1 miles 1 gate 1;dragoons at 2 pace 0;");
        due.is("lasts()", poor.lasts(), 3);
        due.is("bond(0)", poor.bond(0), 10);
        due.is("bond(1)", poor.bond(1), 5);
        due.is("bond(2)", poor.bond(2), 0);
        due.is("bond(3)", poor.bond(3), 0);
        due.is("bond(61)", poor.bond(61), -2);
        due.is("bond(-1)", poor.bond(-1), -2);
        poor.night(-1);
        poor.night(-1);
        due.is("safe(0) before", poor.safe(0), 1);
        due.is("lasts() then", poor.lasts(), 1);
        poor.night(-1);
        due.is("safe(0) of a trust that gave up", poor.safe(0), 0);
        due.is("lasts() in 60", Due.with(trust(299, 5, 1)).lasts(), 60);
        due.is("lasts() in 61", Due.with(trust(300, 5, 1)).lasts(), -1);
        due.is("bond(60)", Due.with(LAND).bond(60), 1000);
        due.is("bond(1)", Due.with(LAND).bond(1), 115);
    }

    private static void builds() {
        // Behind the second night it has just 20: the gate is set up for 20; with 21 asked it is not.
        DaughtersGate x = Due.with(trust(30, 5, 20) + GATE);
        x.night(0);
        x.night(-1);
        standing("for all it has", x, 2, 0, 0, 0, 1);
        DaughtersGate y = Due.with(trust(30, 5, 21) + GATE);
        y.night(0);
        y.night(-1);
        standing("not enough", y, 2, 20, 0, 1, 0);
        due.is("down(0)", y.down(0), 2);
        due.is("bond(2) without it", y.bond(2), 10);
        due.is("lasts() without it", y.lasts(), 5);
        DaughtersGate z = Due.with(trust(30, 5, 19) + GATE);
        z.night(0);
        due.is("bond(1) sets up again", z.bond(1), 1);
        due.is("bond(2) then", z.bond(2), 1);
        due.is("lasts() then", z.lasts(), -1);
    }

    private static void fortyActs() {
        DaughtersGate x = Due.with(trust(0, 0, 1) + GATE);
        for (int i = 0; i < 40; i++) {
            due.is("act " + i, x.night(-1), 5);
        }
        due.is("act 40", x.night(-1), -5);
        due.is("act 40 of no gate", x.night(1), -2);
        due.is("acts", x.count(6), 40);
        due.is("nights", x.now(0), 40);
        due.is("has", x.now(1), 200);
        due.is("undo()", x.undo(), 39);
        due.is("act 39 again", x.night(0), 0);
        due.is("anew()", x.anew(), 40);
    }

    private static void plans() {
        DaughtersGate one = Due.with(trust(0, 5, 50) + GATE);
        due.is("fewest() 1", one.fewest(), 1);
        due.is("plan(0)", one.plan(0), 0);
        due.is("plan(1)", one.plan(1), -3);
        due.is("plan(-1)", one.plan(-1), -3);
        DaughtersGate two = Due.with(trust(6, 5, 50) + GATE);
        due.is("fewest() 2", two.fewest(), 2);
        due.is("two: plan(0)", two.plan(0), 0);
        due.is("two: plan(1)", two.plan(1), -1);
        due.is("two: plan(2)", two.plan(2), -3);
        two.night(0);
        due.is("fewest() behind a night", two.fewest(), 1);
        due.is("plan(0) behind a night", two.plan(0), -1);
        two.undo();
        due.is("fewest() taken back", two.fewest(), 2);
        two.rate(0, 1);
        due.is("fewest() of less toll", two.fewest(), 2);
        due.is("its plan(0): 6, 2, and 3 is too few", two.plan(0), -1);
        two.times(0, 9);
        due.is("fewest() of more ways", two.plan(0), 0);
        DaughtersGate rated = Due.with(trust(0, 5, 50) + GATE.replace("gate 5", "gate 4"));
        due.is("too little toll", rated.plan(0), -1);
        rated.rate(0, 5);
        due.is("toll enough", rated.plan(0), 0);
        DaughtersGate broken = Due.with(trust(4, 5, 50) + GATE.replace("gate 5", "gate 4"));
        due.is("by breaking", broken.fewest(), 1);
        due.is("by breaking: plan(0)", broken.plan(0), 0);
        DaughtersGate idle = Due.with(trust(0, 5, 50) + GATE.replace("gate 5", "gate 4"));
        due.is("without breaking", idle.fewest(), 1);
        due.is("without breaking: plan(0)", idle.plan(0), -1);
        DaughtersGate four = Due.with(trust(19, 5, 50) + GATE);
        due.is("fewest() 4", four.fewest(), 4);
        due.is("four: plan(0)", four.plan(0), 0);
        due.is("four: plan(3)", four.plan(3), -1);
        due.is("four: plan(4)", four.plan(4), -3);
        DaughtersGate five = Due.with(trust(20, 5, 50) + GATE);
        due.is("not in four", five.fewest(), -1);
        due.is("not in four: plan(0)", five.plan(0), -3);
        // What the trust spends on setting up again may be what it lacks: 30 less 5, less 5, less 20.
        DaughtersGate spent = Due.with(trust(30, 5, 20) + GATE);
        due.is("spent: fewest()", spent.fewest(), -1);
        DaughtersGate lacks = Due.with(trust(30, 6, 18) + GATE);
        due.is("lacks: fewest()", lacks.fewest(), 3);
        due.is("lacks: plan(0)", lacks.plan(0), 0);
        due.is("lacks: plan(1)", lacks.plan(1), -1);
        due.is("lacks: plan(2)", lacks.plan(2), -1);
    }

    private static void judged() {
        DaughtersGate x = Due.with(LAND);
        due.is("judge of nothing", x.judge(0), -6);
        due.is("funds of nothing", x.funds(0), -6);
        due.is("judge(4)", x.judge(4), -2);
        due.is("judge(-1)", x.judge(-1), -2);
        due.is("funds(4)", x.funds(4), -2);
        for (int width = 0; width < 4; width++) {
            Due.fill(x, 0, width, 0, 1, -1);
            due.is("judge 0 1 NONE", x.judge(0), 3);
            due.is("funds 0 1 NONE", x.funds(0), 15);
        }
        Due.fill(x, 1, 1, 0, 0, -1);
        due.is("judge till the first that can't", x.judge(1), 1);
        due.is("funds till the first that can't", x.funds(1), 105);
        Due.fill(x, 2, 2, 1);
        due.is("judge of one that is not safe", x.judge(2), 0);
        due.is("funds of one that is not safe", x.funds(2), 100);
        Due.fill(x, 2, 3);
        due.is("judge of no night", x.judge(2), 0);
        due.is("funds of no night", x.funds(2), 100);
        for (long bad : new long[] {3, 4, -2, 256, 4294967296L, -4294967297L, Long.MIN_VALUE}) {
            Due.fill(x, 3, 3, 1, 0, bad);
            due.is("judge of " + bad, x.judge(3), -2);
            due.is("funds of " + bad, x.funds(3), -2);
        }
        x.night(0);
        due.is("judge is from the start", x.judge(0), 3);
        due.is("funds are from the start", x.funds(0), 15);
        due.is("it changes nothing", x.now(1), 105);
        DaughtersGate y = Due.with(trust(0, 0, 1) + GATE);
        y.row(0, 0, 60);
        for (int i = 0; i < 60; i++) {
            y.write(0, i, -1);
        }
        due.is("judge of 60", y.judge(0), 60);
        due.is("funds of 60", y.funds(0), 300);
        DaughtersGate z = Due.with(trust(10, 5, 50) + "road 0 to 1 miles 1 gate 1;");
        Due.fill(z, 0, 0, -1, -1, -1, -1, -1);
        due.is("judge till it gave up", z.judge(0), 3);
        due.is("funds till it gave up", z.funds(0), 0);
        due.is("no shire", Due.fill(new DaughtersGate(), 0, 0).judge(0), -2);
        due.is("no shire, nothing", new DaughtersGate().funds(0), -2);
    }

    private static void drawn() {
        // Draws of 5 from seed 0: 0, 3, 3, 2.
        DaughtersGate x = Due.with(LAND);
        int[] has = {100, 105, 90, 105, 120};
        for (int n = 0; n <= 4; n++) {
            due.is("drawn(0, " + n + ", 0)", x.drawn(0, n, 0), has[n]);
            due.is("drawn(0, " + n + ", 1)", x.drawn(0, n, 1), 0);
            due.is("drawn(0, " + n + ", 2)", x.drawn(0, n, 2), n == 0 ? 0 : 1);
        }
        // From seed 2,000,000,000: 4 (none), 3 (no gate), 1 (not safe).
        due.is("the greatest seed", x.drawn(2000000000, 3, 0), 145);
        due.is("the greatest seed breaks none", x.drawn(2000000000, 3, 2), 0);
        due.is("seed too great", x.drawn(2000000001, 3, 0), -2);
        due.is("seed below 0", x.drawn(-1, 3, 0), -2);
        due.is("drawn n 31", x.drawn(0, 31, 0), -2);
        due.is("drawn n -1", x.drawn(0, -1, 0), -2);
        due.is("drawn what 3", x.drawn(0, 1, 3), -2);
        due.is("drawn what -1", x.drawn(0, 1, -1), -2);
        due.is("it changes nothing", x.now(0), 0);
        // Draws of 2: from seed 3: 1, 1, 1, 0; from 0, 1, 2: 0; from 4 and 5: 1; from 6: 0.
        DaughtersGate y = Due.with(trust(0, 5, 50) + GATE);
        due.is("drawn(3, 3, 1)", y.drawn(3, 3, 1), 0);
        due.is("drawn(3, 4, 1)", y.drawn(3, 4, 1), 1);
        due.is("drawn(3, 30, 2)", y.drawn(3, 30, 2), 1);
        due.is("drawn(3, 30, 0)", y.drawn(3, 30, 0), 0);
        due.is("luck(0, 3, 1)", y.luck(0, 3, 1), 3);
        due.is("luck(2, 3, 1)", y.luck(2, 3, 1), 1);
        due.is("luck(5, 1, 1)", y.luck(5, 1, 1), 0);
        due.is("luck(5, 2, 1)", y.luck(5, 2, 1), 1);
        due.is("luck(5, 2, 0)", y.luck(5, 2, 0), 0);
        due.is("luck of the greatest", y.luck(2000000000, 20, 30) >= 0 ? 1 : 0, 1);
        due.is("luck seed too great", y.luck(2000000001, 1, 1), -2);
        due.is("luck seed below 0", y.luck(-1, 1, 1), -2);
        due.is("luck m 0", y.luck(0, 0, 1), -2);
        due.is("luck m 21", y.luck(0, 21, 1), -2);
        due.is("luck n 31", y.luck(0, 1, 31), -2);
        due.is("luck n -1", y.luck(0, 1, -1), -2);
    }

    private static void noShire() {
        DaughtersGate x = new DaughtersGate();
        long[] all = {x.bond(0), x.dragoons(), x.safe(0), x.open(), x.night(-1), x.night(0), x.now(0), x.down(0), x.undo(), x.anew(),
            x.lasts(), x.fewest(), x.plan(0), x.judge(0), x.funds(0), x.drawn(0, 0, 0), x.luck(0, 1, 0)};
        for (int i = 0; i < all.length; i++) {
            due.is("no shire: call " + i, all[i], -2);
        }
    }

    public static void main(String[] args) {
        oneNight();
        setUpAgain();
        money();
        builds();
        fortyActs();
        plans();
        judged();
        drawn();
        noShire();
        due.close("nights");
    }
}
