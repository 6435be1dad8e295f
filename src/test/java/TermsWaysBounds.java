/** Terms II to IV: ways, what is safe, nights, draws and fractions. */
final class TermsWaysBounds {
    private static final int NONE = DaughtersGate.NONE;
    private final Sentences s;

    TermsWaysBounds(Sentences s) {
        this.s = s;
    }

    private void way(DaughtersGate x, int farmer, int... roads) {
        for (int i = 0; i < roads.length; i++) {
            s.is("way(" + farmer + ", " + i + ")", x.way(farmer, i), roads[i]);
        }
        s.is("the way ends behind " + roads.length, x.way(farmer, roads.length), NONE);
    }

    private void roads() {
        String two = Land.head(4) + Land.gate(0, 1, 2, 5) + Land.gate(2, 1, 3, 7) + Land.farmer(0, 2, 1) + Land.farmer(2, 0, 1) + Land.dragoons(3, 0);
        s.of("Terms II", "ROADS go both ways", () -> {
            DaughtersGate x = Due.with(two);
            way(x, 0, 0, 1);
            way(x, 1, 1, 0);
            s.is("miles(0, 2)", x.miles(0, 2), 5);
            s.is("miles(2, 0)", x.miles(2, 0), 5);
            s.is("tolls(2, 0)", x.tolls(2, 0), 12);
        });
        s.of("Terms II", "a GATE that stands takes its toll of whoever goes by", () -> {
            DaughtersGate x = Due.with(two);
            s.is("pays(0)", x.pays(0), 12);
            s.is("pays(1)", x.pays(1), 12);
            x.night(0);
            s.is("pays(0) by a broken gate", x.pays(0), 7);
            s.is("pays(1) by a broken gate", x.pays(1), 7);
        });
    }

    private void ways() {
        s.of("Terms II", "WAY of a FARMER: ROADS from where he is to where he goes", () -> {
            DaughtersGate x = Due.with(Land.chain() + Land.farmer(0, 5, 1) + Land.farmer(5, 0, 1) + Land.farmer(2, 3, 1));
            way(x, 0, 0, 1, 2, 3, 4);
            way(x, 1, 4, 3, 2, 1, 0);
            way(x, 2, 2);
        });
        s.of("Terms II", "no PLACE twice", () -> {
            // To and fro by 0 and 1 would be the lesser row.
            DaughtersGate x = Due.with(Land.head(3) + Land.road(0, 1, 1) + Land.road(1, 0, 1) + Land.road(0, 2, 20) + Land.farmer(0, 2, 1));
            way(x, 0, 2);
        });
        s.of("Terms II", "of least tolls", () -> {
            DaughtersGate x = Due.with(Land.head(3) + Land.gate(0, 2, 1, 9) + Land.gate(0, 1, 20, 4) + Land.gate(1, 2, 20, 4) + Land.farmer(0, 2, 1));
            way(x, 0, 1, 2);
            s.is("rate(0, 7)", x.rate(0, 7), 9);
            way(x, 0, 0);
        });
        s.of("Terms II", "of these of fewest miles", () -> {
            DaughtersGate x = Due.with(Land.head(3) + Land.gate(0, 2, 8, 9) + Land.gate(0, 1, 3, 4) + Land.gate(1, 2, 4, 5) + Land.farmer(0, 2, 1));
            way(x, 0, 1, 2);
            DaughtersGate y = Due.with(Land.head(3) + Land.gate(0, 1, 3, 4) + Land.gate(1, 2, 4, 5) + Land.gate(0, 2, 6, 9) + Land.farmer(0, 2, 1));
            way(y, 0, 2);
        });
        s.of("Terms II", "of these the least row of numbers", () -> {
            DaughtersGate x = Due.with(Land.head(3) + Land.gate(0, 1, 3, 4) + Land.gate(0, 2, 7, 9) + Land.gate(1, 2, 4, 5) + Land.gate(1, 2, 4, 5)
                + Land.farmer(0, 2, 1) + Land.farmer(2, 0, 1));
            way(x, 0, 0, 2);
            way(x, 1, 1);
        });
        s.of("Terms II", "He PAYS times times their tolls", () -> {
            DaughtersGate x = Due.with(Land.chain() + Land.farmer(0, 5, 0) + Land.farmer(0, 5, 1) + Land.farmer(0, 5, 9));
            s.is("0 times", x.pays(0), 0);
            s.is("1 times", x.pays(1), 495);
            s.is("9 times", x.pays(2), 4455);
        });
    }

    private void safe() {
        s.of("Terms III", "SAFE: the fewest miles from the DRAGOONS to either end of the ROAD are above their pace", () -> {
            // From 0 it is 5 miles to place 1, by 3, and 8 to place 2.
            String land = Land.head(4) + Land.road(0, 1, 10) + Land.road(0, 3, 3) + Land.road(3, 1, 2) + Land.road(0, 2, 8);
            for (String gate : new String[] {Land.gate(1, 2, 9, 1), Land.gate(2, 1, 9, 1)}) {
                s.is("5 miles at pace 5", Due.with(land + gate + Land.dragoons(0, 5)).safe(4), 0);
                s.is("5 miles at pace 4", Due.with(land + gate + Land.dragoons(0, 4)).safe(4), 1);
                s.is("0 miles at pace 0", Due.with(land + gate + Land.dragoons(1, 0)).safe(4), 0);
                s.is("0 miles at pace 0, the other end", Due.with(land + gate + Land.dragoons(2, 0)).safe(4), 0);
                s.is("2 miles at pace 1", Due.with(land + gate + Land.dragoons(3, 1)).safe(4), 1);
                s.is("2 miles at pace 2", Due.with(land + gate + Land.dragoons(3, 2)).safe(4), 0);
            }
        });
        s.of("Terms III", "(or there is no way)", () -> {
            s.is("pace 60", Due.with(Land.head(3) + Land.gate(0, 1, 1, 1) + Land.dragoons(2, 60)).safe(0), 1);
        });
    }

    private void standing(DaughtersGate x, int nights, int has, int over, int broken, int rebuilt) {
        int[] due = {nights, has, over, broken, rebuilt};
        for (int what = 0; what < 5; what++) {
            s.is("now(" + what + ")", x.now(what), due[what]);
        }
    }

    private void night() {
        s.of("Terms III", "A NIGHT: the GATE is broken", () -> {
            DaughtersGate x = Setups.trust(100, 0, 999);
            s.is("it stands", x.road(0, 4), 1);
            s.is("night(0)", x.night(0), 5);
            s.is("it is broken", x.road(0, 4), 0);
            s.is("the other one stands", x.road(1, 4), 1);
        });
        s.of("Terms III", "and the DRAGOONS are at the lesser end (by number) of its ROAD", () -> {
            DaughtersGate x = Setups.trust(100, 0, 999);
            s.is("NONE", x.night(NONE), 15);
            s.is("they stay", x.dragoons(), 3);
            x.night(0);
            s.is("ROAD 2 to 1", x.dragoons(), 1);
            DaughtersGate y = Due.with(Land.head(4) + Land.gate(1, 2, 1, 10) + Land.dragoons(3, 0));
            y.night(0);
            s.is("ROAD 1 to 2", y.dragoons(), 1);
            y.night(NONE);
            s.is("they stay there", y.dragoons(), 1);
        });
        s.of("Terms III", "The next day the TRUST gets what all PAY", () -> {
            DaughtersGate x = Setups.trust(7, 0, 999);
            x.night(NONE);
            standing(x, 1, 22, 0, 0, 0);
            x.night(0);
            standing(x, 2, 27, 0, 1, 0);
        });
        s.of("Terms III", "and pays what it owes", () -> {
            DaughtersGate x = Setups.trust(7, 22, 999);
            x.night(NONE);
            standing(x, 1, 0, 0, 0, 0);
        });
        s.of("Terms III", "if it has not so much, it has nothing and gives up", () -> {
            DaughtersGate x = Setups.trust(7, 23, 999);
            x.night(NONE);
            standing(x, 1, 0, 1, 0, 0);
            DaughtersGate y = Setups.trust(7, 13, 999);
            y.night(0);
            standing(y, 1, 0, 1, 1, 0);
        });
        s.of("Terms III", "(no NIGHT goes by then any more)", () -> {
            DaughtersGate x = Setups.trust(0, 16, 1);
            x.night(NONE);
            s.is("night(NONE)", x.night(NONE), -5);
            s.is("night(0)", x.night(0), -5);
            standing(x, 1, 0, 1, 0, 0);
            s.is("bond(9)", x.bond(9), 0);
            s.is("drawn(0, 9, 2)", x.drawn(0, 9, 2), 0);
            s.is("judge of two", Due.fill(x, 0, 0, NONE, NONE).judge(0), 1);
        });
    }

    private void setUpAgain() {
        s.of("Terms III", "Else, if it has what builds tells", () -> {
            // Behind two nights of 5 it has 10 more.
            DaughtersGate x = Setups.trust(10, 0, 20);
            x.night(0);
            x.night(NONE);
            standing(x, 2, 0, 0, 0, 1);
            DaughtersGate y = Setups.trust(10, 0, 21);
            y.night(0);
            y.night(NONE);
            standing(y, 2, 20, 0, 1, 0);
            DaughtersGate z = Setups.trust(10, 9, 1);
            z.night(0);
            z.night(NONE);
            standing(z, 2, 1, 0, 0, 1);
            DaughtersGate over = Setups.trust(10, 11, 1);
            over.night(0);
            over.night(NONE);
            standing(over, 2, 0, 1, 1, 0);
        });
        s.of("Terms III", "the GATE that is broken for most NIGHTS", () -> {
            // Gates 0 - 1, 1 - 2 and 2 - 3 of no worth, 5 a day by gate 3, which lies apart; one is set up a day, the oldest first.
            String land = Land.head(6, 0, 0, 15, 0) + Land.gate(0, 1, 1, 1) + Land.gate(1, 2, 1, 1) + Land.gate(2, 3, 1, 1) + Land.gate(4, 5, 1, 5)
                + Land.farmer(4, 5, 1) + Land.dragoons(4, 0);
            DaughtersGate x = Due.with(land);
            x.night(2);
            x.night(0);
            standing(x, 2, 10, 0, 5, 0);
            x.night(NONE);
            standing(x, 3, 0, 0, 1, 1);
            s.is("the other one", x.down(0), 2);
            DaughtersGate y = Due.with(land);
            y.night(0);
            y.night(2);
            y.night(NONE);
            standing(y, 3, 0, 0, 4, 1);
        });
        s.of("Terms III", "(of like ones the first)", () -> {
            // A night breaks one gate, so no two are alike: those that fell in one row are set up in that row.
            DaughtersGate x = Due.with(Land.head(6, 0, 0, 15, 0) + Land.gate(0, 1, 1, 1) + Land.gate(1, 2, 1, 1) + Land.gate(2, 3, 1, 1) + Land.gate(4, 5, 1, 5)
                + Land.farmer(4, 5, 3) + Land.dragoons(4, 0));
            x.night(2);
            x.night(0);
            standing(x, 2, 15, 0, 1, 1);
            x.night(2);
            standing(x, 3, 15, 0, 4, 2);
            s.is("down(2) is of its latest fall", x.down(2), 1);
        });
        s.of("Terms III", "if for two at least, tonight counted", () -> {
            DaughtersGate x = Setups.trust(100, 0, 1);
            x.night(0);
            standing(x, 1, 105, 0, 1, 0);
            s.is("down(0) tonight", x.down(0), 1);
            x.night(NONE);
            standing(x, 2, 109, 0, 0, 1);
        });
        s.of("Terms III", "is set up again for that", () -> {
            DaughtersGate x = Setups.trust(100, 0, 7);
            x.night(0);
            s.is("what all PAY that day is without it", x.night(NONE), 5);
            standing(x, 2, 103, 0, 0, 1);
            s.is("it stands", x.road(0, 4), 1);
            s.is("it takes its toll", x.night(NONE), 15);
            standing(x, 3, 118, 0, 0, 1);
        });
    }

    /** Two gates apart, of 5 and 7 a day, never set up again; a road without a gate, if it is asked for. */
    static String apart(int post, String more) {
        return Land.head(5, 0, 0, 999, 0) + Land.gate(0, 1, 1, 5) + Land.gate(2, 3, 1, 7) + more
            + Land.farmer(0, 1, 1) + Land.farmer(2, 3, 1) + Land.dragoons(post, 0);
    }

    private void has(DaughtersGate x, int seed, int... due) {
        for (int n = 0; n < due.length; n++) {
            s.is("drawn(" + seed + ", " + n + ", 0)", x.drawn(seed, n, 0), due[n]);
        }
    }

    private void draws() {
        // The draws of seed 1 are 16838, 5758, 10113, 17515, ..; of three: 2, 1, 0, 1, 1, 2.
        s.of("Terms IV", "DRAWS: x becomes (1103515245 x + 12345) modulo 2,147,483,648", () -> {
            has(Due.with(apart(4, "")), 1, 0, 12, 17, 17, 17);
            // 3304, 7133, 3221, 19807, 6926, 6792: of three 1, 2, 2, 1, 2, 0.
            has(Due.with(apart(4, "")), 2000000000, 0, 5, 10, 15, 20, 25, 25);
            // 19233, 22843: of three 0, 1.
            has(Due.with(apart(4, "")), 1999999999, 0, 7, 7, 7);
        });
        s.of("Terms IV", "(at first it is the seed)", () -> {
            // 0, 21468, 9988: of three 0, 0, 1; of seed 5: 18655, 8457: 1, 0.
            has(Due.with(apart(4, "")), 0, 0, 7, 14, 14);
            has(Due.with(apart(4, "")), 5, 0, 5, 5);
        });
        s.of("Terms IV", "a draw of n: x / 65536, cut, modulo n", () -> {
            // Of nine: 8 (none), 7, 6, 1 of seed 1; 1 of seed 2,000,000,000.
            DaughtersGate x = Due.with(Probe.READER);
            s.is("as the row NONE 7", x.drawn(1, 2, 0), Due.fill(x, 0, 0, NONE, 7).funds(0));
            s.is("as the row 1", x.drawn(2000000000, 1, 0), Due.fill(x, 0, 0, 1).funds(0));
            // Of one it is always 0, the last.
            s.is("no roads", Due.with(Land.head(2)).drawn(1, 30, 2), 0);
        });
        s.of("Terms IV", "NIGHT drawn: a draw of ROADS and one more", () -> {
            // With a third road it is of four: 2, 2, 1, 3 of seed 1; of five with a fourth: 3, 3, 3, 0.
            has(Due.with(apart(4, Land.road(0, 2, 9))), 1, 0, 12, 24, 29, 34);
            has(Due.with(apart(4, Land.road(0, 2, 9) + Land.road(0, 2, 9))), 1, 0, 12, 24, 36, 43);
        });
    }

    private void drawnNights() {
        s.of("Terms IV", "that ROAD's GATE is broken, if there is one", () -> {
            DaughtersGate x = Due.with(apart(4, Land.road(0, 2, 9)));
            s.is("ROAD 2 has none", x.drawn(1, 2, 2), 0);
            s.is("ROAD 1 has one", x.drawn(1, 3, 2), 1);
        });
        s.of("Terms IV", "that stands and is SAFE", () -> {
            DaughtersGate x = Due.with(apart(4, ""));
            s.is("gate 0 falls in the third", x.drawn(1, 3, 2), 2);
            s.is("gate 1 does not stand in the fourth", x.drawn(1, 4, 2), 2);
            // Dragoons at 2: gate 1 is not safe in the second; in the fourth they are at 0.
            DaughtersGate y = Due.with(apart(2, ""));
            has(y, 1, 0, 12, 24, 31, 31);
            s.is("not safe in the second", y.drawn(1, 2, 2), 0);
            s.is("safe in the fourth", y.drawn(1, 4, 2), 2);
        });
        s.of("Terms IV", "else none (the last: none)", () -> {
            DaughtersGate x = Due.with(apart(4, ""));
            s.is("a night goes by", x.drawn(1, 1, 0), 12);
            s.is("none is broken", x.drawn(1, 1, 2), 0);
        });
        s.of("Terms IV", "if the TRUST gave up, nothing goes on", () -> {
            // It owes 6: behind 12, 5 and 0 more it gives up in the third night.
            DaughtersGate x = Due.with(apart(4, "").replace("owes 0", "owes 6"));
            has(x, 1, 0, 6, 5, 0, 0);
            s.is("drawn(1, 2, 1)", x.drawn(1, 2, 1), 0);
            s.is("drawn(1, 3, 1)", x.drawn(1, 3, 1), 1);
            s.is("drawn(1, 30, 2)", x.drawn(1, 30, 2), 2);
            DaughtersGate y = Due.with(apart(4, "").replace("owes 0", "owes 13"));
            s.is("gave up in the first", y.drawn(1, 30, 2), 0);
            s.is("it has nothing", y.drawn(1, 30, 0), 0);
        });
    }

    private void fractions() {
        s.of("Terms IV", "FRACTIONS are told in lowest terms (0 / 1)", () -> {
            DaughtersGate x = Due.with(Land.head(2) + Land.farmer(0, 1, 0, 0, 50) + Land.farmer(0, 1, 0, 0, 100) + Land.farmer(0, 1, 0, 0, 0)
                + Land.farmer(0, 1, 0, 0, 99) + Land.farmer(0, 1, 0, 0, 25));
            long[][] due = {{1, 1, 2}, {2, 0, 1}, {4, 1, 1}, {8, 1, 100}, {16, 3, 4}, {17, 3, 8}, {24, 3, 400}, {31, 0, 1}, {0, 1, 1}};
            for (long[] d : due) {
                s.is("above of " + d[0], x.band((int) d[0], 0), d[1]);
                s.is("below of " + d[0], x.band((int) d[0], 1), d[2]);
            }
        });
    }

    void all() {
        roads();
        ways();
        safe();
        night();
        setUpAgain();
        draws();
        drawnNights();
        fractions();
    }
}
