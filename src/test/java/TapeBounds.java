/** Promises 1 to 7 and 61: a new object, the tape, the shire and what it tells. */
final class TapeBounds {
    private static final int NONE = DaughtersGate.NONE;
    private static final int MIN = Integer.MIN_VALUE;
    private static final int MAX = Integer.MAX_VALUE;
    private static final String HEAD = "shire places 3 has 9 owes 9 builds 9 walk 9;";
    private final Sentences s;

    TapeBounds(Sentences s) {
        this.s = s;
    }

    /** A tape of so many bytes (a multiple of 20), all blanks. */
    private static DaughtersGate blanks(int bytes) {
        DaughtersGate x = new DaughtersGate();
        for (int i = 0; i < bytes; i += 20) {
            x.feed(0x20202020, 0x20202020, 0x20202020, 0x20202020, 0x20202020);
        }
        return x;
    }

    private void newObject() {
        s.of(1, "No SHIRE", () -> {
            DaughtersGate x = new DaughtersGate();
            for (int what = 0; what <= 9; what++) {
                s.is("count(" + what + ")", x.count(what), 0);
            }
            s.is("income()", x.income(), -2);
            s.is("dragoons()", x.dragoons(), -2);
            s.is("night(NONE)", x.night(NONE), -2);
            s.is("road(0, 0)", x.road(0, 0), -2);
            s.is("farmer(0, 0)", x.farmer(0, 0), -2);
            s.is("miles(0, 0)", x.miles(0, 0), -2);
            s.is("another one's shire", Due.with(Setups.FULL).count(0) + x.count(0), 6);
        });
    }

    private void feed() {
        s.of(2, "Twenty bytes come behind the TAPE, four of each number, the highest first", () -> {
            DaughtersGate x = new DaughtersGate();
            // "shir" "e pl" "aces" " 3 h" "as 9", then " owe" "s 8 " "buil" "ds 7" " wal", then "k 6;".
            x.feed(0x73686972, 0x6520706c, 0x61636573, 0x20332068, 0x61732039);
            x.feed(0x206f7765, 0x73203820, 0x6275696c, 0x64732037, 0x2077616c);
            x.feed(0x6b20363b, 0x20202020, 0x20202020, 0x20202020, 0x20202020);
            s.is("shire()", x.shire(), 1);
            int[] counts = {3, 0, 0, 8, 7, 6};
            for (int what = 0; what < 6; what++) {
                s.is("count(" + what + ")", x.count(what), counts[what]);
            }
            s.is("has", x.now(1), 9);
            for (int at = 0; at < 20; at++) {
                // One byte that is no TOKEN, among blanks; its highest bit is set.
                int[] a = {0x20202020, 0x20202020, 0x20202020, 0x20202020, 0x20202020};
                a[at / 4] |= 0x80 << 8 * (3 - at % 4);
                x.feed(a[0], a[1], a[2], a[3], a[4]);
                s.is("shire() of byte " + at, x.shire(), -4);
                s.is("its place", x.fault(1), at);
            }
            for (int number : new int[] {-1, MIN, MAX, 0}) {
                x.feed(number, number, number, number, number);
                s.is("shire() of " + number, x.shire(), -4);
                s.is("its place", x.fault(1), 0);
            }
        });
        s.of(2, "how many it has", () -> {
            DaughtersGate x = new DaughtersGate();
            for (int bytes = 20; bytes <= 900; bytes += 20) {
                s.is("feed", x.feed(0, 0, 0, 0, 0), bytes);
            }
            x.end(1);
            s.is("feed behind 1", x.feed(0, 0, 0, 0, 0), 21);
        });
        s.of(2, "NONE, and none come, if it would have more than 900", () -> {
            s.is("feed to 900", blanks(880).feed(-1, -1, -1, -1, -1), 900);
            for (int has : new int[] {881, 890, 899, 900}) {
                DaughtersGate x = blanks(900);
                x.end(has);
                s.is("feed to " + (has + 20), x.feed(-1, -1, -1, -1, -1), NONE);
                s.is("none come to " + has, x.count(8), has);
                s.is("shire() of blanks alone", x.shire(), 0);
            }
            // 900 bytes are read to the last.
            String text = HEAD + " ".repeat(900 - 2 * 22 - HEAD.length()) + "dragoons at 1 pace 60;" + "dragoons at 2 pace 60;";
            DaughtersGate x = Due.tape(new DaughtersGate(), text);
            s.is("the TAPE is full", x.count(8), 900);
            s.is("feed", x.feed(-1, -1, -1, -1, -1), NONE);
            s.is("shire()", x.shire(), 3);
            s.is("dragoons()", x.dragoons(), 2);
            Due.tape(x, text.substring(0, 899) + "?");
            s.is("the 900th byte is read", x.shire() + x.fault(1), -4 + 899);
        });
    }

    private void end() {
        s.of(3, "The TAPE has its first n bytes alone: n", () -> {
            String text = HEAD + "road 0 to 1 miles 1;";
            DaughtersGate x = Due.tape(new DaughtersGate(), text);
            s.is("end(64): all", x.end(64), 64);
            s.is("count(8)", x.count(8), 64);
            s.is("end(44)", x.end(44), 44);
            s.is("count(8)", x.count(8), 44);
            s.is("end(64): they are gone", x.end(64), NONE);
            x.feed(0x20202020, 0x20202020, 0x20202020, 0x20202020, 0x20202020);
            s.is("shire() of the first alone", x.shire(), 1);
            Due.tape(x, text);
            s.is("end(0)", x.end(0), 0);
            s.is("shire() of none", x.shire(), 0);
            s.is("end(0) of none", x.end(0), 0);
            for (int n = 20; n >= 0; n--) {
                x.feed(0, 0, 0, 0, 0);
                s.is("end(" + n + ")", x.end(n), n);
                x.end(0);
            }
        });
        s.of(3, "NONE, and nothing happens, if it has not so many", () -> {
            s.refused("end(45) of 44", Setups::busy, x -> x.end(x.count(8) + 1), NONE);
            s.refused("end(MAX)", Setups::busy, x -> x.end(MAX), NONE);
            s.is("end(1) of none", new DaughtersGate().end(1), NONE);
            s.is("end(901) of 900", blanks(900).end(901), NONE);
            s.is("end(900) of 900", blanks(900).end(900), 900);
        });
        s.of(3, "or n is below 0", () -> {
            s.refused("end(-1)", Setups::busy, x -> x.end(-1), NONE);
            s.refused("end(MIN)", Setups::busy, x -> x.end(MIN), NONE);
            s.is("end(-1) of none", new DaughtersGate().end(-1), NONE);
        });
    }

    private void shire() {
        s.of(4, "The TAPE (empty then)", () -> {
            DaughtersGate x = Due.tape(new DaughtersGate(), HEAD);
            s.is("shire()", x.shire(), 1);
            s.is("count(8)", x.count(8), 0);
            s.is("end(1)", x.end(1), NONE);
            Due.tape(x, "shire places 7");
            s.is("shire() of a FAULT", x.shire(), -4);
            s.is("count(8) behind a FAULT", x.count(8), 0);
            s.is("feed behind a FAULT", x.feed(0, 0, 0, 0, 0), 20);
        });
        s.of(4, "is the SHIRE (in place of another)", () -> {
            DaughtersGate x = Setups.busy();
            x.end(0);
            Due.tape(x, Land.head(2, 5, 6, 7, 8) + Land.gate(1, 0, 2, 3));
            s.is("shire()", x.shire(), 2);
            int[] counts = {2, 1, 0, 6, 7, 8, 0, 2, 0, 3};
            for (int what = 0; what < 10; what++) {
                s.is("count(" + what + ")", x.count(what), counts[what]);
            }
            int[] road = {1, 0, 2, 3, 1};
            for (int what = 0; what < 5; what++) {
                s.is("road(0, " + what + ")", x.road(0, what), road[what]);
            }
            s.is("road(1, 0)", x.road(1, 0), -2);
            s.is("farmer(0, 0)", x.farmer(0, 0), -2);
            s.is("income()", x.income(), 0);
            s.is("miles(0, 1)", x.miles(0, 1), 2);
            s.is("miles(0, 2)", x.miles(0, 2), -2);
            s.is("dragoons()", x.dragoons(), 0);
            s.is("images stay", x.back(1), 0);
            s.is("as they were", x.count(1), 8);
        });
        s.of(4, "nothing done", () -> {
            DaughtersGate x = Setups.busy();
            x.end(0);
            Due.tape(x, Setups.FULL);
            x.shire();
            int[] due = {0, 500, 0, 0, 0};
            for (int what = 0; what < 5; what++) {
                s.is("now(" + what + ")", x.now(what), due[what]);
            }
            s.is("acts", x.count(6), 0);
            s.is("undo()", x.undo(), -5);
            s.is("gates()", x.gates(), 127);
            s.is("dragoons()", x.dragoons(), 5);
        });
        s.of(4, "how many LINES", () -> {
            String most = HEAD + "dragoons at 0 pace 0;".repeat(40);
            DaughtersGate x = Due.tape(new DaughtersGate(), most);
            s.is("shire()", x.shire(), 41);
            s.is("count(7)", x.count(7), 41);
            Due.tape(x, HEAD);
            s.is("shire() of one", x.shire(), 1);
        });
        s.of(4, "(0: there is none then)", () -> {
            for (String text : new String[] {"", " ", "\n", " \n\n  "}) {
                DaughtersGate x = Setups.full();
                x.night(NONE);
                Due.tape(x, text);
                s.is("shire()", x.shire(), 0);
                for (int what = 0; what <= 8; what++) {
                    s.is("count(" + what + ")", x.count(what), 0);
                }
                s.is("income()", x.income(), -2);
                s.is("undo()", x.undo(), -2);
                s.is("road(0, 0)", x.road(0, 0), -2);
                s.is("farmer(0, 0)", x.farmer(0, 0), -2);
                s.is("miles(0, 0)", x.miles(0, 0), -2);
                s.is("fault(0)", x.fault(0), 0);
            }
        });
        s.of(4, "-4: a FAULT (all stays)", () -> {
            for (String text : new String[] {"?", "shire places 7", HEAD + "road 0 to 1 miles 1 gate 5;".repeat(9), HEAD + "road 0 to 1 miles 3 gate 9;shire"}) {
                s.is("shire() of " + text, Due.tape(emptied(), text).shire(), -4);
                // The same text with a FAULT is read last by both, so that they differ in what the first one left.
                s.alike("shire() of " + text, () -> withFault("%"), x -> {
                    Due.tape(x, text).shire();
                    return Due.tape(x, "%").shire();
                });
            }
            s.is("no SHIRE stays none", Due.tape(new DaughtersGate(), HEAD + "?").shire(), -4);
            DaughtersGate x = Due.tape(new DaughtersGate(), HEAD + "?");
            x.shire();
            s.is("income()", x.income(), -2);
            s.is("count(7)", x.count(7), 0);
        });
    }

    private static DaughtersGate emptied() {
        DaughtersGate x = Setups.busy();
        x.end(0);
        return x;
    }

    /** Busy, with an empty tape, behind a text with a fault. */
    private static DaughtersGate withFault(String text) {
        DaughtersGate x = Due.tape(emptied(), text);
        x.shire();
        return x;
    }

    private void fault() {
        s.of(5, "Of the latest shire()", () -> {
            DaughtersGate x = withFault("shire places 7");
            s.is("fault(0)", x.fault(0), 2);
            Due.tape(x, " %");
            s.is("fault(0) ahead of shire()", x.fault(0), 2);
            x.shire();
            s.is("fault(0) of the latest", x.fault(0), 1);
            s.is("fault(1) of the latest", x.fault(1), 1);
            x.back(0);
            s.is("fault(0) behind back(0)", x.fault(0), 1);
            x.night(NONE);
            x.feed(0, 0, 0, 0, 0);
            s.is("fault(1) behind other calls", x.fault(1), 1);
        });
        s.of(5, "what 0: its FAULT, 0 without", () -> {
            s.is("1", withFault("?").fault(0), 1);
            s.is("2", withFault("shire places 1").fault(0), 2);
            s.is("3", withFault(HEAD + "road 0 to 1 miles 1;".repeat(9)).fault(0), 3);
            DaughtersGate x = withFault("?");
            Due.tape(x, HEAD);
            x.shire();
            s.is("0", x.fault(0), 0);
        });
        s.of(5, "1: its place (NONE without)", () -> {
            s.is("the first place", withFault("?").fault(1), 0);
            s.is("the last place", withFault(" ".repeat(899) + "?").fault(1), 899);
            s.is("the end's place", withFault("shire" + " ".repeat(895)).fault(1), 900);
            DaughtersGate x = withFault("?");
            Due.tape(x, HEAD);
            x.shire();
            s.is("NONE", x.fault(1), NONE);
            Due.tape(x, "?").shire();
            x.shire();
            s.is("NONE of the empty", x.fault(1), NONE);
        });
        s.of(5, "NONE for another what", () -> {
            for (int what : new int[] {-1, 2, 3, MIN, MAX}) {
                s.is("fault(" + what + ") of a FAULT", withFault("shire places 1").fault(what), NONE);
                s.is("fault(" + what + ") without", Setups.full().fault(what), NONE);
                s.is("fault(" + what + ") ahead of any", new DaughtersGate().fault(what), NONE);
            }
        });
        s.of(5, "and ahead of any (what 1)", () -> {
            s.is("fault(1)", new DaughtersGate().fault(1), NONE);
            s.is("fault(0)", new DaughtersGate().fault(0), 0);
        });
    }

    private void roadsAndFarmers() {
        String land = Land.head(3) + Land.gate(2, 0, 20, 99) + Land.road(0, 1, 1) + Land.farmer(2, 0, 9, 999, 100) + Land.dragoons(1, 0);
        s.of(6, "Of a ROAD, what 0, 1: its PLACES, 2: miles", () -> {
            DaughtersGate x = Due.with(land);
            int[][] due = {{2, 0, 20}, {0, 1, 1}};
            for (int r = 0; r < 2; r++) {
                for (int what = 0; what < 3; what++) {
                    s.is("road(" + r + ", " + what + ")", x.road(r, what), due[r][what]);
                }
            }
        });
        s.of(6, "3: toll (0 without a GATE)", () -> {
            DaughtersGate x = Due.with(land);
            s.is("road(0, 3)", x.road(0, 3), 99);
            s.is("road(1, 3)", x.road(1, 3), 0);
            x.night(0);
            s.is("road(0, 3) of a broken one", x.road(0, 3), 99);
        });
        s.of(6, "4: 1 if its GATE stands now, else 0", () -> {
            DaughtersGate x = Due.with(land);
            s.is("it stands", x.road(0, 4), 1);
            s.is("there is none", x.road(1, 4), 0);
            x.night(0);
            s.is("it is broken", x.road(0, 4), 0);
            x.undo();
            s.is("it stands again", x.road(0, 4), 1);
        });
        s.of(6, "-2: there are none such", () -> {
            DaughtersGate x = Due.with(land);
            for (int r : new int[] {-1, 2, 7, 8, MIN, MAX}) {
                for (int what = 0; what < 5; what++) {
                    s.is("road(" + r + ", " + what + ")", x.road(r, what), -2);
                }
            }
            for (int what : new int[] {-1, 5, MIN, MAX}) {
                s.is("road(0, " + what + ")", x.road(0, what), -2);
            }
            s.is("road(8, 0) of eight", Setups.full().road(8, 0), -2);
            s.is("road(7, 0) of eight", Setups.full().road(7, 0), 2);
            s.is("no SHIRE", Setups.bare().road(0, 0), -2);
        });
        s.of(7, "Of a FARMER, what 0: where he is, 1: where he goes, 2: times, 3: courage, 4: odds", () -> {
            DaughtersGate x = Due.with(land);
            int[] due = {2, 0, 9, 999, 100};
            for (int what = 0; what < 5; what++) {
                s.is("farmer(0, " + what + ")", x.farmer(0, what), due[what]);
            }
        });
        s.of(7, "-2: there are none such", () -> {
            DaughtersGate x = Due.with(land);
            for (int f : new int[] {-1, 1, 5, 6, MIN, MAX}) {
                for (int what = 0; what < 5; what++) {
                    s.is("farmer(" + f + ", " + what + ")", x.farmer(f, what), -2);
                }
            }
            for (int what : new int[] {-1, 5, MIN, MAX}) {
                s.is("farmer(0, " + what + ")", x.farmer(0, what), -2);
            }
            s.is("farmer(6, 0) of six", Setups.full().farmer(6, 0), -2);
            s.is("farmer(5, 0) of six", Setups.full().farmer(5, 0), 2);
            s.is("no SHIRE", Setups.bare().farmer(0, 0), -2);
        });
    }

    private void count() {
        s.of(61, "0 PLACES, 1 ROADS, 2 FARMERS, 3 owes, 4 builds, 5 walk", () -> {
            DaughtersGate x = Setups.full();
            int[] most = {6, 8, 6, 40, 60, 5};
            DaughtersGate y = Setups.empty();
            int[] least = {2, 0, 0, 0, 1, 0};
            for (int what = 0; what < 6; what++) {
                s.is("count(" + what + ") of the full", x.count(what), most[what]);
                s.is("count(" + what + ") of the empty", y.count(what), least[what]);
                s.is("count(" + what + ") of none", Setups.bare().count(what), 0);
            }
        });
        s.of(61, "6 acts", () -> {
            s.is("none", Setups.full().count(6), 0);
            s.is("two", Setups.busy().count(6), 2);
            s.is("forty", Setups.forty().count(6), 40);
            DaughtersGate x = Setups.forty();
            x.night(NONE);
            s.is("no more", x.count(6), 40);
            x.undo();
            s.is("one taken back", x.count(6), 39);
        });
        s.of(61, "7 LINES", () -> {
            s.is("of the full", Setups.full().count(7), 16);
            s.is("of one", Setups.empty().count(7), 1);
            s.is("of none", Setups.bare().count(7), 0);
        });
        s.of(61, "8 bytes of the TAPE", () -> {
            s.is("none", Setups.full().count(8), 0);
            s.is("unread", Setups.busy().count(8), 44);
            s.is("full", blanks(900).count(8), 900);
        });
        s.of(61, "9 SLOTS that have a row", () -> {
            DaughtersGate x = new DaughtersGate();
            for (int slot = 0; slot < 4; slot++) {
                s.is("of " + slot, x.count(9), slot);
                x.row(3 - slot, slot, 0);
            }
            s.is("all", x.count(9), 4);
            x.row(0, 0, 9);
            s.is("one in place of another", x.count(9), 4);
        });
        s.of(61, "NONE for others", () -> {
            for (int what : new int[] {-1, 10, 11, MIN, MAX}) {
                s.is("count(" + what + ")", Setups.busy().count(what), NONE);
                s.is("count(" + what + ") of none", new DaughtersGate().count(what), NONE);
            }
        });
    }

    void all() {
        newObject();
        feed();
        end();
        shire();
        fault();
        roadsAndFarmers();
        count();
    }
}
