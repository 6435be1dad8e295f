/** Promises 49 to 51, 54 to 56 and 62 to 66: bands, who it was, images, slots. */
public final class BandsTest {
    private static final Due due = new Due();
    private static final String LAND = TollsTest.GUARDED;

    private static void bands() {
        DaughtersGate x = Due.with(LAND);
        due.is("band(3, 0)", x.band(3, 0), 9);
        due.is("band(3, 1)", x.band(3, 1), 20);
        due.is("band(7, 1)", x.band(7, 1), 20);
        due.is("band(4, 0)", x.band(4, 0), 1);
        due.is("band(4, 1)", x.band(4, 1), 1);
        due.is("band(0, 0)", x.band(0, 0), 1);
        due.is("band(0, 1)", x.band(0, 1), 1);
        due.is("band(8, 0)", x.band(8, 0), -2);
        due.is("band(-1, 0)", x.band(-1, 0), -2);
        due.is("band(0, 2)", x.band(0, 2), -2);
        due.is("band(0, -1)", x.band(0, -1), -2);
        due.is("no shire", new DaughtersGate().band(0, 0), -2);
        int[][] most = {{0, 3, 7}, {45, 3, 7}, {46, 2, 5}, {50, 2, 5}, {90, 2, 5}, {91, 1, 4}, {100, 1, 4}};
        for (int[] row : most) {
            due.is("most(" + row[0] + ")", x.most(row[0]), row[1]);
            due.is("bands(" + row[0] + ")", x.bands(row[0]), row[2]);
        }
        due.is("most(101)", x.most(101), -2);
        due.is("most(-1)", x.most(-1), -2);
        due.is("bands(101)", x.bands(101), -2);
        due.is("bands(-1)", x.bands(-1), -2);
        String sure = "shire places 2 has 0 owes 0 builds 1 walk 0;";
        DaughtersGate y = Due.with(sure + "farmer at 0 to 1 times 0 courage 0 odds 1;".repeat(5) + "farmer at 0 to 1 times 0 courage 0 odds 100;");
        due.is("five of 99", y.band(31, 0), 9509900499L);
        due.is("five of 100", y.band(31, 1), 10000000000L);
        due.is("one who informs", y.band(63, 0), 0);
        due.is("in lowest terms", y.band(63, 1), 1);
        due.is("most(0) takes all", y.most(0), 6);
        due.is("most(1) leaves him", y.bands(1), 31);
        due.is("most(100) is nobody", y.most(100), 0);
        due.is("bands(100) is nobody", y.bands(100), 0);
        due.is("nobody lives there", Due.with(sure).most(100), 0);
        DaughtersGate z = Due.with(sure + "farmer at 0 to 1 times 0 courage 0 odds 1;".repeat(6));
        due.is("six of 99", z.band(63, 0), 941480149401L);
        due.is("six of 100", z.band(63, 1), 1000000000000L);
        due.is("the least set", z.bands(98), 3);
    }

    private static void suspects() {
        DaughtersGate x = Due.with(LAND);
        due.is("who of nothing", x.who(0), -6);
        due.is("watch of nothing", x.watch(0), -6);
        due.is("leaves of nothing", x.leaves(0), -6);
        due.is("who(4)", x.who(4), -2);
        due.is("watch(4)", x.watch(4), -2);
        due.is("leaves(-1)", x.leaves(-1), -2);
        due.is("no shire", Due.fill(new DaughtersGate(), 0, 0).who(0), -2);
        Due.fill(x, 0, 0);
        due.is("who by nothing told", x.who(0), 7);
        due.is("watch then", x.watch(0), 0);
        due.is("leaves then", x.leaves(0), 2);
        Due.fill(x, 1, 0, 0, 2);
        due.is("who by two", x.who(1), 3);
        due.is("watch by two", x.watch(1), -1);
        due.is("leaves by two", x.leaves(1), 2);
        for (long bad : new long[] {-1, 3, 4, -2, 256}) {
            Due.fill(x, 2, 2, 0, bad);
            due.is("who of " + bad, x.who(2), -2);
            due.is("watch of " + bad, x.watch(2), -2);
            due.is("leaves of " + bad, x.leaves(2), -2);
        }
        // Four farmers in a row of places one mile apart, walk 1: gates 0 - 1, 1 - 2, 3 - 4.
        DaughtersGate y = Due.with("shire places 5 has 0 owes 0 builds 1 walk 1;road 0 to 1 miles 1 gate 1;road 1 to 2 miles 1 gate 1;"
            + "road 2 to 3 miles 1;road 3 to 4 miles 1 gate 1;farmer at 0 to 1 times 0 courage 0 odds 0;farmer at 2 to 1 times 0 courage 0 odds 0;"
            + "farmer at 3 to 1 times 0 courage 0 odds 0;farmer at 4 to 1 times 0 courage 0 odds 0;dragoons at 4 pace 1;");
        Due.fill(y, 0, 1);
        due.is("who of all", y.who(0), 15);
        due.is("the gate that halves them", y.watch(0), 0);
        due.is("leaves two", y.leaves(0), 2);
        Due.fill(y, 0, 1, 3);
        due.is("who by gate 3", y.who(0), 14);
        due.is("watch behind it", y.watch(0), 0);
        due.is("leaves behind it", y.leaves(0), 2);
        Due.fill(y, 0, 1, 3, 1);
        due.is("who by 3 and 1", y.who(0), 6);
        due.is("watch of these", y.watch(0), 0);
        due.is("leaves one", y.leaves(0), 1);
        y.night(0);
        due.is("a broken gate can be watched", y.watch(0), 0);
        Due.fill(y, 0, 1, 3, 1, 0);
        due.is("who by all", y.who(0), 2);
        due.is("no gate tells more", y.watch(0), -1);
        due.is("as now without", y.leaves(0), 1);
    }

    private static void images() {
        DaughtersGate x = new DaughtersGate();
        due.is("image(-1)", x.image(-1), -2);
        due.is("image(3)", x.image(3), -2);
        due.is("back(-1)", x.back(-1), -2);
        due.is("back(3)", x.back(3), -2);
        due.is("back(1) of nothing", x.back(1), -6);
        due.is("image(0) of no shire", x.image(0), 0);
        Due.tape(x, LAND);
        x.shire();
        x.rate(1, 9);
        x.times(1, 1);
        due.is("night(0)", x.night(0), 27);
        due.is("image(1)", x.image(1), 0);
        due.is("night(1)", x.night(1), 0);
        int has = x.now(1);
        due.is("image(2)", x.image(2), 0);
        x.anew();
        x.rate(1, 7);
        due.is("back(1)", x.back(1), 0);
        due.is("acts", x.count(6), 1);
        due.is("gates", x.gates(), 6);
        due.is("toll", x.road(1, 3), 9);
        due.is("times", x.farmer(1, 2), 1);
        due.is("dragoons", x.dragoons(), 0);
        due.is("undo goes on", x.undo(), 0);
        due.is("gates then", x.gates(), 7);
        due.is("back(2)", x.back(2), 0);
        due.is("has", x.now(1), has);
        due.is("undo()", x.undo(), 1);
        due.is("the image stays", x.back(2), 0);
        due.is("acts of the image", x.count(6), 2);
        Due.fill(x, 0, 0, 1);
        x.feed(1, 2, 3, 4, 5);
        due.is("back(0)", x.back(0), 0);
        due.is("no shire then", x.income(), -2);
        due.is("no acts then", x.count(6), 0);
        due.is("slots stay", x.count(9), 1);
        due.is("the tape stays", x.count(8), 20);
        due.is("back(1) again", x.back(1), 0);
        due.is("miles again", x.miles(0, 2), 7);
        due.is("image over another", x.image(2), 0);
        x.undo();
        x.back(2);
        due.is("acts of the new image", x.count(6), 1);
    }

    private static void slots() {
        DaughtersGate x = Due.with(LAND);
        due.is("row(4, 0, 1)", x.row(4, 0, 1), -2);
        due.is("row(-1, 0, 1)", x.row(-1, 0, 1), -2);
        due.is("row(0, 4, 1)", x.row(0, 4, 1), -2);
        due.is("row(0, -1, 1)", x.row(0, -1, 1), -2);
        due.is("row(0, 0, 61)", x.row(0, 0, 61), -2);
        due.is("row(0, 0, -1)", x.row(0, 0, -1), -3);
        due.is("row(4, 0, -1)", x.row(4, 0, -1), -2);
        due.is("row(0, 4, -1)", x.row(0, 4, -1), -2);
        due.is("none has a row", x.count(9), 0);
        due.is("write(0, 0, 0)", x.write(0, 0, 0), -6);
        due.is("row(0, 0, 60)", x.row(0, 0, 60), 0);
        due.is("row(1, 3, 0)", x.row(1, 3, 0), 0);
        due.is("two have", x.count(9), 2);
        due.is("write(0, 59, 1)", x.write(0, 59, 1), 0);
        due.is("write(0, 60, 1)", x.write(0, 60, 1), -7);
        due.is("write(0, -1, 1)", x.write(0, -1, 1), -7);
        due.is("write(1, 0, 1)", x.write(1, 0, 1), -7);
        due.is("write(4, 0, 1)", x.write(4, 0, 1), -2);
        due.is("write(-1, 0, 1)", x.write(-1, 0, 1), -2);
        due.is("write(2, 0, 1)", x.write(2, 0, 1), -6);
        due.is("a slot stays at -3", x.row(0, 0, -1), -3);
        due.is("it has 60", x.write(0, 59, 1), 0);
        // Cut to one, two and four bytes these are all 2; gate 2 is not safe, but a gate.
        long[] wide = {0x102L, 0x10002L, 0x100000002L, 2L};
        for (int width = 0; width < 4; width++) {
            Due.fill(x, 2, width, wide[width]);
            due.is("cut to width " + width, x.who(2), 3);
            Due.fill(x, 2, width, width == 3 ? 255 : (1L << (8 << width)) - 1);
            due.is("cut to NONE by width " + width, x.judge(2), width == 3 ? -2 : 1);
        }
        x.row(2, 0, 1);
        due.is("all 0", x.judge(2), 1);
    }

    private static void pasted() {
        DaughtersGate x = Due.with(LAND);
        Due.fill(x, 0, 1, -1, -1, 0, 1);
        Due.fill(x, 1, 1, 3, 3, 3);
        Due.fill(x, 2, 2, 0, 0);
        due.is("paste(0, 0, 4, 0, 1)", x.paste(0, 0, 4, 0, 1), -2);
        due.is("paste(-1, 0, 0, 0, 1)", x.paste(-1, 0, 0, 0, 1), -2);
        due.is("paste(0, 0, 3, 0, 1)", x.paste(0, 0, 3, 0, 1), -6);
        due.is("paste(3, -1, 0, 0, 1)", x.paste(3, -1, 0, 0, 1), -6);
        due.is("paste(0, -1, 2, 0, 1)", x.paste(0, -1, 2, 0, 1), -8);
        due.is("paste(0, -1, 1, 0, 1)", x.paste(0, -1, 1, 0, 1), -7);
        due.is("paste(0, 0, 1, -1, 1)", x.paste(0, 0, 1, -1, 1), -7);
        due.is("paste(0, 0, 1, 0, -1)", x.paste(0, 0, 1, 0, -1), -7);
        due.is("paste(0, 0, 1, 0, 4)", x.paste(0, 0, 1, 0, 4), -7);
        due.is("paste(0, 2, 1, 0, 3)", x.paste(0, 2, 1, 0, 3), -7);
        due.is("paste far", x.paste(0, Integer.MAX_VALUE, 1, 0, Integer.MAX_VALUE), -7);
        due.is("paste of nothing far", x.paste(0, 5, 1, 0, 0), -7);
        due.is("nothing happened", x.judge(1), -2);
        due.is("paste of nothing", x.paste(0, 4, 1, 3, 0), 0);
        due.is("paste(0, 1, 1, 0, 3)", x.paste(0, 1, 1, 0, 3), 0);
        due.is("it is NONE 0 1", x.judge(1), 3);
        due.is("on itself", x.paste(1, 0, 1, 1, 2), 0);
        due.is("it is NONE NONE 0", x.judge(1), 3);
        due.is("by its funds", x.funds(1), 135);
        Due.fill(x, 1, 1, 0, 1, -1);
        due.is("on itself downwards", x.paste(1, 1, 1, 0, 2), 0);
        due.is("it is 1 NONE NONE: not safe", x.judge(1), 0);
        Due.fill(x, 1, 1, 0, 3, 3);
        due.is("on itself upwards", x.paste(1, 0, 1, 1, 1), 0);
        due.is("it is 0 0 3", x.judge(1), -2);
        x.write(1, 2, -1);
        due.is("it is 0 0 NONE", x.judge(1), 1);
    }

    public static void main(String[] args) {
        bands();
        suspects();
        images();
        slots();
        pasted();
        due.close("bands");
    }
}
