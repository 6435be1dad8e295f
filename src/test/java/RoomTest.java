import java.lang.management.ManagementFactory;

/** All calls of a run live in one room: no call makes objects, and a new object is small. */
public final class RoomTest {
    private static final Due due = new Due();
    private static final com.sun.management.ThreadMXBean THREADS = (com.sun.management.ThreadMXBean) ManagementFactory.getThreadMXBean();

    private static long made() {
        return THREADS.getThreadAllocatedBytes(Thread.currentThread().getId());
    }

    /** Every method once, and the dearest with their greatest arguments. */
    private static long calls(DaughtersGate x) {
        long sum = x.fault(0) + x.road(0, 0) + x.farmer(0, 0) + x.miles(0, 1) + x.tolls(0, 1) + x.way(0, 0) + x.pays(0) + x.uses(0)
            + x.income() + x.gates() + x.idle() + x.loss(0) + x.first() + x.spoil(4) + x.spoils(4) + x.angry() + x.ask(0) + x.asks(0)
            + x.quiet(0) + x.furious() + x.trip(0) + x.barn(0) + x.barns() + x.horn(0, 9) + x.bond(60) + x.round(0, 63)
            + x.rounds(0, 63, 0) + x.dragoons() + x.safe(0) + x.open() + x.lie() + x.lies() + x.sure() + x.rests() + x.night(0)
            + x.now(0) + x.down(0) + x.fewest() + x.plan(0) + x.undo() + x.anew() + x.lasts() + x.row(0, 0, 60) + x.write(0, 0, -1)
            + x.paste(0, 0, 0, 1, 59) + x.judge(0) + x.funds(0) + x.band(63, 0) + x.most(50) + x.bands(50) + x.inform(9, 9) + x.dear(9)
            + x.who(0) + x.watch(0) + x.leaves(0) + x.drawn(1, 30, 0) + x.luck(1, 20, 30) + x.rate(0, 9) + x.times(0, 9) + x.count(9)
            + x.image(0) + x.back(0) + x.fewest();
        return sum + x.feed(1, 2, 3, 4, 5) + x.end(0);
    }

    private static String widest() {
        StringBuilder s = new StringBuilder("shire places 6 has 500 owes 90 builds 50 walk 9;");
        int[][] ends = {{0, 1}, {1, 2}, {2, 3}, {3, 4}, {4, 5}, {0, 2}, {1, 3}, {0, 5}};
        for (int[] e : ends) {
            s.append("road ").append(e[0]).append(" to ").append(e[1]).append(" miles 5 gate 7;");
        }
        for (int f = 0; f < 6; f++) {
            s.append("farmer at ").append(f).append(" to ").append((f + 3) % 6).append(" times 1 courage 5 odds 9;");
        }
        return s.toString();
    }

    public static void main(String[] args) {
        DaughtersGate x = Due.with(widest());
        long told = calls(x);
        long before = made();
        for (int i = 0; i < 8; i++) {
            told += calls(x);
        }
        long bytes = made() - before;
        due.is("bytes made by 512 calls: " + bytes + ", none", bytes < 512 ? 0 : 1, 0);
        before = made();
        DaughtersGate y = new DaughtersGate();
        bytes = made() - before;
        due.is("bytes made by a new object: " + bytes + ", few", bytes < 40000 ? 0 : 1, 0);
        due.is("it is used", y.count(0) + (told == 0 ? 1 : 0), 0);
        due.close("room");
    }
}
