import java.util.ArrayList;
import java.util.List;
import java.util.function.ToIntFunction;

/** Terms I: the text of a shire, its bounds, its tokens and its faults. */
final class TermsBounds {
    private static final String HEAD = "shire places 3 has 9 owes 9 builds 9 walk 9;";
    private static final String ROAD = "road 0 to 1 miles 1;";
    private static final String FARMER = "farmer at 0 to 1 times 1 courage 1 odds 1;";
    private static final String EACH_LINE = "shire places 3 has 9 owes 8 builds 7 walk 6 ; road 0 to 1 miles 5 gate 4 ; "
        + "farmer at 1 to 2 times 3 courage 2 odds 1 ; dragoons at 2 pace 0 ;";
    private final Sentences s;

    TermsBounds(Sentences s) {
        this.s = s;
    }

    private DaughtersGate sound(String text, int lines) {
        DaughtersGate x = Due.tape(new DaughtersGate(), text);
        s.is("shire() of " + text, x.shire(), lines);
        s.is("fault(0) of " + text, x.fault(0), 0);
        s.is("fault(1) of " + text, x.fault(1), -1);
        return x;
    }

    private void faulty(String text, int fault, int place) {
        DaughtersGate x = Due.tape(new DaughtersGate(), text);
        s.is("shire() of " + text, x.shire(), -4);
        s.is("fault(0) of " + text, x.fault(0), fault);
        s.is("fault(1) of " + text, x.fault(1), place);
    }

    /** A number between two texts: at its bounds it is read, beyond them it is a fault, also where it would wrap around. */
    private void number(String ahead, String behind, int least, int most, int lines, ToIntFunction<DaughtersGate> told) {
        for (int n : new int[] {least, most}) {
            DaughtersGate x = sound(ahead + n + behind, lines);
            s.is("what is read of " + n, told.applyAsInt(x), n);
            faulty(ahead + (4294967296L + n) + behind, 2, ahead.length());
            faulty(ahead + new java.math.BigInteger("18446744073709551616").add(java.math.BigInteger.valueOf(n)) + behind, 2, ahead.length());
        }
        if (least > 0) {
            faulty(ahead + (least - 1) + behind, 2, ahead.length());
        }
        faulty(ahead + (most + 1) + behind, 2, ahead.length());
        faulty(ahead + "-1" + behind, 1, ahead.length());
    }

    private void lines() {
        s.of("Terms I", "SHIRE: {LINE ;}", () -> {
            sound("", 0);
            sound(" \n", 0);
            sound(HEAD, 1);
            sound(HEAD + ROAD, 2);
            faulty(";", 1, 0);
            faulty(HEAD + ";", 1, 44);
            faulty(HEAD.substring(0, 43), 1, 43);
            faulty(HEAD + ROAD.substring(0, 19), 1, 63);
            faulty(HEAD.substring(0, 43) + " " + ROAD, 1, 44);
        });
        s.of("Terms I", "LINE: shire places N has N owes N builds N walk N | road P to P miles N [gate N] "
            + "| farmer at P to P times N courage N odds N | dragoons at P pace N", this::eachToken);
        s.of("Terms I", "shire is the first LINE and no other", () -> {
            faulty(ROAD + HEAD, 1, 0);
            faulty(FARMER + HEAD, 1, 0);
            faulty("dragoons at 0 pace 0;" + HEAD, 1, 0);
            faulty(HEAD + HEAD, 1, 44);
            faulty(HEAD + ROAD + HEAD, 1, 64);
        });
    }

    /** Without a token, or with a text that ends behind it, the next place has fault 1; so has a token that is another. */
    private void eachToken() {
        sound(EACH_LINE, 4);
        List<String> tokens = new ArrayList<>(List.of(EACH_LINE.split(" ")));
        int place = 0;
        for (int i = 0; i < tokens.size(); i++) {
            String token = tokens.get(i);
            List<String> others = new ArrayList<>(tokens);
            others.remove(i);
            faulty(String.join(" ", others), 1, i == tokens.size() - 1 ? place - 1 : place);
            String ahead = EACH_LINE.substring(0, place);
            String cut = token.equals(";") ? ahead : ahead + token;
            faulty(cut, 1, cut.length());
            faulty(ahead + "gates" + EACH_LINE.substring(place + token.length()), 1, place);
            faulty(ahead + "%" + EACH_LINE.substring(place), 1, place);
            if (Character.isLetter(token.charAt(0))) {
                String behind = EACH_LINE.substring(place + token.length());
                faulty(ahead + "z" + token.substring(1) + behind, 1, place);
                faulty(ahead + token.substring(0, token.length() - 1) + "z" + behind, 1, place);
            }
            place += token.length() + 1;
        }
        sound(EACH_LINE.replace("gate 4 ", ""), 4);
    }

    private void headBounds() {
        s.of("Terms I", "places 2 .. 6", () -> {
            number("shire places ", " has 9 owes 9 builds 9 walk 9;", 2, 6, 1, x -> x.count(0));
            faulty("shire places 0 has", 2, 13);
        });
        s.of("Terms I", "has 0 .. 9,999", () -> number("shire places 3 has ", " owes 9 builds 9 walk 9;", 0, 9999, 1, x -> x.now(1)));
        s.of("Terms I", "owes 0 .. 999,", () -> number("shire places 3 has 9 owes ", " builds 9 walk 9;", 0, 999, 1, x -> x.count(3)));
        s.of("Terms I", "builds 1 .. 999", () -> number("shire places 3 has 9 owes 9 builds ", " walk 9;", 1, 999, 1, x -> x.count(4)));
        s.of("Terms I", "walk 0 .. 60", () -> number("shire places 3 has 9 owes 9 builds 9 walk ", ";", 0, 60, 1, x -> x.count(5)));
    }

    private void roadBounds() {
        s.of("Terms I", "road: two PLACES 0 .. places less 1", () -> {
            for (int places : new int[] {2, 6}) {
                String head = Land.head(places);
                sound(head + Land.road(0, places - 1, 1) + Land.road(places - 1, 0, 1), 3);
                faulty(head + "road " + places + " to 0 miles 1;", 2, head.length() + 5);
                faulty(head + "road 0 to " + places + " miles 1;", 2, head.length() + 10);
                faulty(head + "road 4294967297 to 0 miles 1;", 2, head.length() + 5);
                faulty(head + "road 0 to 4294967297 miles 1;", 2, head.length() + 10);
            }
        });
        s.of("Terms I", "unlike ones", () -> {
            faulty(HEAD + "road 0 to 0 miles 1;", 2, 54);
            faulty(HEAD + "road 2 to 2 miles 1;", 2, 54);
            faulty(HEAD + "road 2 to 002 miles 1;", 2, 54);
            sound(HEAD + "road 2 to 1 miles 1;", 2);
        });
        s.of("Terms I", "miles 1 .. 20", () -> number(HEAD + "road 0 to 1 miles ", ";", 1, 20, 2, x -> x.road(0, 2)));
        s.of("Terms I", "gate: its toll 1 .. 99", () -> number(HEAD + "road 0 to 1 miles 1 gate ", ";", 1, 99, 2, x -> x.road(0, 3)));
    }

    private void farmerBounds() {
        s.of("Terms I", "farmer: two unlike PLACES", () -> {
            for (int places : new int[] {2, 6}) {
                String head = Land.head(places);
                sound(head + Land.farmer(0, places - 1, 1) + Land.farmer(places - 1, 0, 1), 3);
                faulty(head + "farmer at " + places + " to 0 times", 2, head.length() + 10);
                faulty(head + "farmer at 0 to " + places + " times", 2, head.length() + 15);
                faulty(head + "farmer at 0 to 0 times", 2, head.length() + 15);
                faulty(head + "farmer at 1 to 1 times", 2, head.length() + 15);
            }
        });
        s.of("Terms I", "times 0 .. 9", () -> number(HEAD + "farmer at 0 to 1 times ", " courage 1 odds 1;", 0, 9, 2, x -> x.farmer(0, 2)));
        s.of("Terms I", "courage 0 .. 999", () -> number(HEAD + "farmer at 0 to 1 times 1 courage ", " odds 1;", 0, 999, 2, x -> x.farmer(0, 3)));
        s.of("Terms I", "odds 0 .. 100", () -> number(HEAD + "farmer at 0 to 1 times 1 courage 1 odds ", ";", 0, 100, 2, x -> x.farmer(0, 4)));
    }

    /** A gate 60 miles from the dragoons. */
    private static String far(int pace) {
        return Land.head(5) + Land.road(0, 1, 20) + Land.road(1, 2, 20) + Land.road(2, 3, 20) + Land.gate(3, 4, 1, 1) + Land.dragoons(0, pace);
    }

    private void dragoonBounds() {
        s.of("Terms I", "dragoons: a PLACE", () -> {
            s.is("the last PLACE", sound(HEAD + Land.dragoons(2, 1), 2).dragoons(), 2);
            faulty(HEAD + "dragoons at 3 pace", 2, 56);
            s.is("PLACE 0", sound(HEAD + Land.dragoons(0, 1), 2).dragoons(), 0);
        });
        s.of("Terms I", ", pace 0 .. 60", () -> {
            s.is("60 miles at pace 60", sound(far(60), 6).safe(3), 0);
            s.is("60 miles at pace 59", sound(far(59), 6).safe(3), 1);
            s.is("1 mile at pace 0", sound(Land.head(3) + Land.road(0, 1, 1) + Land.gate(1, 2, 1, 1) + Land.dragoons(0, 0), 4).safe(1), 1);
            faulty(HEAD + "dragoons at 0 pace 61;", 2, 63);
            faulty(HEAD + "dragoons at 0 pace 4294967296;", 2, 63);
        });
        s.of("Terms I", "(a later one strikes", () -> {
            DaughtersGate x = sound(far(60) + Land.dragoons(1, 39) + Land.dragoons(4, 0), 8);
            s.is("its PLACE", x.dragoons(), 4);
            s.is("it is at the gate", x.safe(3), 0);
            DaughtersGate y = sound(far(60) + Land.dragoons(0, 1), 7);
            s.is("its pace", y.safe(3), 1);
        });
        s.of("Terms I", "PLACE 0, pace 0 without)", () -> {
            DaughtersGate x = sound(Land.head(3) + Land.gate(0, 1, 1, 1) + Land.gate(1, 2, 1, 1), 3);
            s.is("PLACE 0", x.dragoons(), 0);
            s.is("a gate there", x.safe(0), 0);
            s.is("a gate 1 mile off", x.safe(1), 1);
            Due.tape(x, Land.head(3) + Land.dragoons(2, 9));
            x.shire();
            Due.tape(x, Land.head(3) + Land.gate(0, 1, 1, 1) + Land.gate(1, 2, 1, 1));
            x.shire();
            s.is("PLACE 0 behind another shire", x.dragoons(), 0);
            s.is("pace 0 behind another shire", x.safe(1), 1);
        });
    }

    private void numbered() {
        s.of("Terms I", "ROADS 0 .. 7", () -> {
            StringBuilder text = new StringBuilder(HEAD);
            for (int i = 1; i <= 8; i++) {
                text.append(Land.road(0, 1, i));
            }
            DaughtersGate x = sound(text.toString(), 9);
            s.is("ROADS", x.count(1), 8);
            s.is("ROAD 0", x.road(0, 2), 1);
            s.is("ROAD 7", x.road(7, 2), 8);
            s.is("ROAD 8", x.road(8, 2), -2);
        });
        s.of("Terms I", "FARMERS 0 .. 5 are numbered as they stand", () -> {
            StringBuilder text = new StringBuilder(HEAD);
            for (int i = 1; i <= 6; i++) {
                text.append(Land.farmer(0, 1, i)).append(i < 3 ? ROAD : "");
            }
            DaughtersGate x = sound(text.toString(), 9);
            s.is("FARMERS", x.count(2), 6);
            s.is("FARMER 0", x.farmer(0, 2), 1);
            s.is("FARMER 5", x.farmer(5, 2), 6);
            s.is("FARMER 6", x.farmer(6, 2), -2);
        });
        s.of("Terms I", "a GATE by its ROAD", () -> {
            DaughtersGate x = sound(HEAD + ROAD.repeat(7) + Land.gate(1, 2, 1, 1), 9);
            s.is("gates()", x.gates(), 128);
            s.is("loss(7)", x.loss(7), 0);
            s.is("loss(0)", x.loss(0), -2);
        });
    }

    private void tokens() {
        s.of("Terms I", "TOKENS, blanks (32, 10) aside", () -> {
            sound(" \n " + HEAD.replace(" ", "\n \n") + "\n", 1);
            sound(HEAD.replace(";", " ;"), 1);
            for (int other : new int[] {0, 9, 11, 12, 13, 31, 33, 127, 160}) {
                faulty("shire " + (char) other + "places", 1, 6);
            }
            faulty("" + (char) 13, 1, 0);
        });
        s.of("Terms I", "the longest", () -> {
            sound("shire places2has0owes0builds1walk0;road0to1miles1gate99;dragoons at1pace0;", 3);
            faulty("shireplaces 2 has", 1, 0);
            faulty("shires", 1, 0);
            faulty("shir", 1, 0);
            faulty("shir e places", 1, 0);
            faulty("shire places 2 2 has", 1, 15);
            faulty("shire places 22 has", 2, 13);
            faulty(HEAD + "roadroad", 1, 44);
            faulty(HEAD + "road 0 to 1 miles 1 gat e 1;", 1, 64);
        });
        s.of("Terms I", "words (a .. z)", () -> {
            // All of a .. z but j, q, v, x and z stand in the words of a sound text.
            sound(EACH_LINE, 4);
            for (String word : new String[] {"j", "q", "v", "x", "z", "a"}) {
                faulty(HEAD + "road 0 to 1 miles 1 " + word + ";", 1, 64);
                faulty(HEAD + word + "road", 1, 44);
                faulty(HEAD + "road" + word + " 0 to 1 miles 1;", 1, 44);
            }
            for (int other : new int[] {'`', '{', 'A', 'Z', '@', '[', 225, 255}) {
                faulty(HEAD + "road" + (char) other + " 0", 1, 48);
            }
            faulty("SHIRE places", 1, 0);
        });
        s.of("Terms I", "numbers (digits)", () -> {
            sound("shire places 2 has 01 owes 345 builds 678 walk 09;", 1);
            s.is("0123", sound("shire places 2 has 0123 owes 0 builds 1 walk 0;", 1).now(1), 123);
            s.is("4567", sound("shire places 2 has 4567 owes 0 builds 1 walk 0;", 1).now(1), 4567);
            s.is("8901", sound("shire places 2 has 8901 owes 0 builds 1 walk 0;", 1).now(1), 8901);
            s.is("many digits", sound("shire places 2 has " + "0".repeat(200) + "7 owes 0 builds 1 walk 0;", 1).now(1), 7);
            faulty("shire places 2 has " + "9".repeat(200), 2, 19);
            for (char other : new char[] {'/', ':', '+', '-', '.', ','}) {
                faulty("shire places 2 has 9" + other + "9 owes", 1, 20);
            }
        });
        s.of("Terms I", "the sign ; .", () -> {
            sound(HEAD.replace(";", " ; "), 1);
            for (char other : new char[] {':', '<', '.', ','}) {
                faulty(HEAD.replace(';', other), 1, 43);
            }
        });
    }

    private void faults() {
        s.of("Terms I", "FAULTS, the first by its place", () -> {
            faulty("shire places 7 has %", 2, 13);
            faulty("shire % places 7", 1, 6);
            faulty(HEAD + "road 3 to 3 miles 0", 2, 49);
            faulty(HEAD + ROAD.repeat(8) + "road 9 %", 3, 204);
            faulty(HEAD + ROAD.repeat(7) + "road 9 to 1 miles 1;" + ROAD, 2, 189);
        });
        s.of("Terms I", "(a TOKEN's first byte; the end's)", () -> {
            faulty("  \n shires", 1, 4);
            faulty("shire places  10000", 2, 14);
            faulty("shire", 1, 5);
            faulty("shire \n", 1, 7);
            faulty(HEAD + "road 0 to 1 miles 1" + " ".repeat(837), 1, 900);
        });
        s.of("Terms I", "of one place the least", () -> {
            // A 9th road, and a 7th farmer, where the sign has to stand; a number out of bounds where none can.
            faulty(HEAD + ROAD.repeat(7) + "road 0 to 1 miles 1 road", 1, 204);
            faulty(HEAD + FARMER.repeat(5) + "farmer at 0 to 1 times 1 courage 1 odds 1 farmer", 1, 296);
            faulty("shire places 3 10000", 1, 15);
            faulty("10000", 1, 0);
        });
        s.of("Terms I", "1 a TOKEN that is none, or can't stand there", () -> {
            faulty("?", 1, 0);
            faulty(HEAD + "?", 1, 44);
            faulty(HEAD + "to", 1, 44);
            faulty(HEAD + "7", 1, 44);
            faulty(HEAD + "road 0 at", 1, 51);
        });
        s.of("Terms I", "(shire behind the first LINE, another word ahead of it)", () -> {
            faulty(HEAD + "shire", 1, 44);
            faulty(HEAD + ROAD + FARMER + "shire", 1, 106);
            faulty("road", 1, 0);
            faulty("farmer", 1, 0);
            faulty("dragoons", 1, 0);
            faulty("x", 1, 0);
        });
        s.of("Terms I", "2 a number out of its bounds, not as said", () -> {
            faulty("shire places 1", 2, 13);
            faulty(HEAD + "road 1 to 1", 2, 54);
            faulty(HEAD + "farmer at 1 to 1", 2, 59);
        });
        s.of("Terms I", "3 a 9th road, 7th farmer, at its word", () -> {
            sound(HEAD + ROAD.repeat(8) + FARMER.repeat(6), 15);
            faulty(HEAD + ROAD.repeat(9), 3, 204);
            faulty(HEAD + ROAD.repeat(8) + "road", 3, 204);
            faulty(HEAD + ROAD.repeat(8) + "road?", 3, 204);
            faulty(HEAD + FARMER.repeat(7), 3, 296);
            faulty(HEAD + FARMER.repeat(6) + "farmer", 3, 296);
            faulty(HEAD + ROAD.repeat(8) + FARMER.repeat(6) + "\n road", 3, 458);
        });
    }

    private void slots() {
        s.of("Terms I", "SLOTS 0 .. 3 have rows of numbers", () -> {
            DaughtersGate x = new DaughtersGate();
            int[] due = {-2, 0, 0, 0, 0, -2};
            for (int slot = -1; slot <= 4; slot++) {
                s.is("row(" + slot + ", 0, 1)", x.row(slot, 0, 1), due[slot + 1]);
            }
            s.is("count(9)", x.count(9), 4);
        });
        s.of("Terms I", "of 1, 2, 4 or 8 bytes (WIDTH 0 .. 3)", () -> {
            // The greatest number of a width and one more is its least one; only 8 bytes have 2^32 as it is.
            DaughtersGate x = Due.with(Probe.READER);
            int gateSeven = Due.fill(x, 0, 3, 7).funds(0);
            for (int width = 0; width < 4; width++) {
                for (int wider = 0; wider < 4; wider++) {
                    long v = wider == 3 ? 7 : (1L << (8 << wider)) + 7;
                    boolean fits = width <= wider;
                    Due.fill(x, 0, width, v);
                    s.is("WIDTH " + width + " has " + v, x.funds(0), fits ? gateSeven : -2);
                }
            }
        });
        s.of("Terms I", "at most 60", () -> {
            DaughtersGate x = new DaughtersGate();
            for (int width = 0; width < 4; width++) {
                s.is("row of 60", x.row(width, width, 60), 0);
                s.is("row of 61", x.row(width, width, 61), -2);
                s.is("number 59", x.write(width, 59, 1), 0);
                s.is("number 60", x.write(width, 60, 1), -7);
            }
        });
        s.of("Terms I", "or nothing", () -> {
            DaughtersGate x = new DaughtersGate();
            s.is("SLOTS that have a row", x.count(9), 0);
            for (int slot = 0; slot < 4; slot++) {
                s.is("write(" + slot + ", 0, 0)", x.write(slot, 0, 0), -6);
            }
            x.row(1, 0, 0);
            s.is("an empty row is not nothing", x.write(1, 0, 0), -7);
            s.is("SLOTS that have one", x.count(9), 1);
        });
    }

    void all() {
        lines();
        headBounds();
        roadBounds();
        farmerBounds();
        dragoonBounds();
        numbered();
        tokens();
        faults();
        slots();
    }
}
