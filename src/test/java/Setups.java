/** Objects in states in which calls are refused; each call makes a new one, always the same. */
final class Setups {
    /** As many places, roads and farmers as there may be; road 7 has no gate. */
    static final String FULL = Land.head(6, 500, 40, 60, 5)
        + Land.gate(0, 1, 3, 5) + Land.gate(1, 2, 4, 7) + Land.gate(2, 3, 2, 4) + Land.gate(3, 4, 5, 9)
        + Land.gate(5, 4, 1, 3) + Land.gate(0, 2, 6, 11) + Land.gate(1, 3, 5, 12) + Land.road(2, 5, 7)
        + Land.farmer(0, 5, 2, 20, 10) + Land.farmer(1, 4, 1, 99, 50) + Land.farmer(3, 0, 3, 0, 0)
        + Land.farmer(4, 1, 1, 5, 100) + Land.farmer(5, 3, 0, 7, 20) + Land.farmer(2, 4, 9, 100, 33)
        + Land.dragoons(5, 1);
    /** Two gates; without gate 0 nobody pays. */
    private static final String TWO = Land.gate(0, 1, 1, 5) + Land.gate(1, 2, 1, 9) + Land.farmer(0, 1, 1) + Land.dragoons(3, 0);

    private Setups() { }

    private static DaughtersGate filled(DaughtersGate x) {
        Due.fill(x, 0, 0, 0, -1, 3);
        Due.fill(x, 1, 1, 3, 0);
        Due.fill(x, 2, 3, 1, 2, 3, -1);
        return x;
    }

    /** The full shire, not a thing done. */
    static DaughtersGate full() {
        return Due.with(FULL);
    }

    /** Two nights, of which the second set up gate 0 again; gate 3 is broken; images, slots, a fault, an unread tape. */
    static DaughtersGate busy() {
        DaughtersGate x = filled(full());
        x.image(0);
        Due.tape(x, "shire places 7");
        x.shire();
        x.night(0);
        x.image(1);
        x.night(3);
        return Due.tape(x, Land.head(4, 1, 2, 3, 4));
    }

    /** No shire, but slots and an unread tape. */
    static DaughtersGate bare() {
        return Due.tape(filled(new DaughtersGate()), Land.head(4, 1, 2, 3, 4));
    }

    /** The trust gave up in its first night; gate 0 is broken, gate 1 stands and is safe. */
    static DaughtersGate fallen() {
        DaughtersGate x = filled(Due.with(Land.head(4, 0, 5, 50, 0) + TWO));
        x.night(0);
        return x;
    }

    /** As many acts as there may be, both gates stand and are safe. */
    static DaughtersGate forty() {
        DaughtersGate x = filled(Due.with(Land.head(4) + TWO));
        for (int i = 0; i < 40; i++) {
            x.night(-1);
        }
        return x;
    }

    /** A shire in which nobody lives and no road goes. */
    static DaughtersGate empty() {
        return filled(Due.with(Land.head(2)));
    }

    /** A trust that gets 15 a day: 10 by gate 0 (2 to 1), 5 by gate 1 (1 to 0); dragoons where no road goes. */
    static DaughtersGate trust(int has, int owes, int builds) {
        return Due.with(Land.head(4, has, owes, builds, 0) + Land.gate(2, 1, 1, 10) + Land.gate(1, 0, 1, 5)
            + Land.farmer(1, 2, 1) + Land.farmer(0, 1, 1) + Land.dragoons(3, 0));
    }
}
