import java.util.ArrayList;
import java.util.List;
import java.util.function.Function;

/**
 * What can be seen of an object. Each part is asked of an object of its own, since some change
 * what they look at, and since an object is used for 512 calls at most.
 */
final class Probe {
    // Eight gates, each of which leaves other funds when it is broken; all are safe.
    static final String READER = Land.head(6) + Land.gate(3, 4, 1, 17) + Land.gate(1, 2, 1, 30) + Land.gate(1, 3, 1, 11) + Land.gate(1, 4, 1, 15)
        + Land.gate(2, 3, 1, 13) + Land.gate(2, 4, 1, 21) + Land.gate(0, 1, 1, 25) + Land.gate(0, 2, 1, 17)
        + Land.farmer(3, 0, 3) + Land.farmer(1, 0, 3) + Land.farmer(1, 3, 2) + Land.farmer(1, 3, 1) + Land.farmer(0, 1, 3) + Land.farmer(4, 3, 1)
        + Land.dragoons(5, 0);

    private Probe() { }

    static List<Function<DaughtersGate, List<Long>>> parts() {
        List<Function<DaughtersGate, List<Long>>> all = new ArrayList<>();
        all.add(Probe::counts);
        all.add(Probe::things);
        all.add(Probe::ways);
        all.add(Probe::acts);
        all.add(Probe::images);
        all.add(Probe::tape);
        for (int slot = 0; slot < 4; slot++) {
            int one = slot;
            all.add(x -> slot(x, one));
        }
        return all;
    }

    private static void put(List<Long> row, long... answers) {
        for (long a : answers) {
            row.add(a);
        }
    }

    private static List<Long> counts(DaughtersGate x) {
        List<Long> row = new ArrayList<>();
        for (int what = 0; what <= 9; what++) {
            put(row, x.count(what), x.now(what));
        }
        put(row, x.fault(0), x.fault(1), x.income(), x.gates(), x.idle(), x.first(), x.angry(), x.furious(), x.barns(), x.dragoons(),
            x.open(), x.lie(), x.lies(), x.sure(), x.rests(), x.lasts(), x.fewest(), x.plan(0), x.plan(1), x.bond(1), x.bond(9),
            x.drawn(7, 5, 0), x.band(5, 0), x.band(5, 1), x.most(50), x.dear(3));
        for (int s = 0; s < 4; s++) {
            put(row, x.judge(s), x.funds(s), x.who(s), x.watch(s), x.leaves(s));
        }
        return row;
    }

    private static List<Long> things(DaughtersGate x) {
        List<Long> row = new ArrayList<>();
        for (int what = 0; what < 5; what++) {
            for (int r = 0; r < 8; r++) {
                put(row, x.road(r, what));
            }
            for (int f = 0; f < 6; f++) {
                put(row, x.farmer(f, what));
            }
        }
        for (int g = 0; g < 8; g++) {
            put(row, x.loss(g), x.safe(g), x.down(g), x.uses(g), x.ask(g), x.quiet(g));
        }
        return row;
    }

    private static List<Long> ways(DaughtersGate x) {
        List<Long> row = new ArrayList<>();
        for (int f = 0; f < 6; f++) {
            put(row, x.pays(f), x.trip(f), x.way(f, 0), x.way(f, 1), x.way(f, 2), x.round(f, 3));
        }
        for (int p = 0; p < 6; p++) {
            for (int q = 0; q < 6; q++) {
                put(row, x.miles(p, q), x.tolls(p, q));
            }
            put(row, x.barn(p));
        }
        return row;
    }

    /** All acts, the latest first. */
    private static List<Long> acts(DaughtersGate x) {
        List<Long> row = new ArrayList<>();
        for (int i = 0; i <= 40; i++) {
            put(row, x.now(1), x.now(3), x.dragoons(), x.undo());
        }
        return row;
    }

    private static List<Long> images(DaughtersGate x) {
        List<Long> row = new ArrayList<>();
        for (int k = 0; k < 3; k++) {
            put(row, x.back(k));
            for (int what = 0; what < 8; what++) {
                put(row, x.count(what), x.now(what), x.road(what, 3), x.farmer(what, 2), x.down(what));
            }
            put(row, x.dragoons(), x.income(), x.undo(), x.now(1));
        }
        return row;
    }

    private static List<Long> tape(DaughtersGate x) {
        List<Long> row = new ArrayList<>();
        put(row, x.count(8), x.shire(), x.fault(0), x.fault(1));
        for (int what = 0; what < 9; what++) {
            put(row, x.count(what), x.now(what));
        }
        return row;
    }

    /** The width of a slot's row, and each of its numbers as far as gates tell them apart. */
    private static List<Long> slot(DaughtersGate x, int slot) {
        List<Long> row = new ArrayList<>();
        x.end(0);
        Due.tape(x, READER);
        put(row, x.shire());
        int other = (slot + 1) % 4;
        for (int width = 0; width < 4; width++) {
            x.row(other, width, 1);
            long fits = x.paste(slot, 0, other, 0, 0);
            put(row, fits);
            for (int i = 0; i < 61 && fits == 0; i++) {
                put(row, x.paste(slot, i, other, 0, 1), x.funds(other));
            }
        }
        return row;
    }
}
