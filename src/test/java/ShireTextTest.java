/** Promises 1 to 7 and 61: the tape, the text of a shire, its faults, and what it tells. */
public final class ShireTextTest {
    private static final Due due = new Due();
    private static final String HEAD = "shire places 3 has 9 owes 9 builds 9 walk 9;";
    private static final String ROAD = "road 0 to 1 miles 1;";
    private static final String FARMER = "farmer at 0 to 1 times 1 courage 1 odds 1;";

    private static void faulty(String text, int fault, int place) {
        DaughtersGate x = Due.with("shire places 2 has 1 owes 2 builds 3 walk 4;");
        Due.tape(x, text);
        due.is("shire() of " + text, x.shire(), -4);
        due.is("fault(0) of " + text, x.fault(0), fault);
        due.is("fault(1) of " + text, x.fault(1), place);
        due.is("the old shire stays at " + text, x.count(4), 3);
        due.is("its lines stay at " + text, x.count(7), 1);
    }

    private static void sound(String text, int lines) {
        DaughtersGate x = new DaughtersGate();
        Due.tape(x, text);
        due.is("shire() of " + text, x.shire(), lines);
        due.is("fault(0) of " + text, x.fault(0), 0);
        due.is("fault(1) of " + text, x.fault(1), -1);
        due.is("count(7) of " + text, x.count(7), lines);
        due.is("count(8) of " + text, x.count(8), 0);
    }

    private static void newObject() {
        DaughtersGate x = new DaughtersGate();
        for (int what = 0; what <= 9; what++) {
            due.is("new: count(" + what + ")", x.count(what), 0);
        }
        due.is("new: count(-1)", x.count(-1), -1);
        due.is("new: count(10)", x.count(10), -1);
        due.is("new: income()", x.income(), -2);
        due.is("new: fault(0)", x.fault(0), 0);
        due.is("new: fault(1)", x.fault(1), -1);
        due.is("new: fault(2)", x.fault(2), -1);
        due.is("new: back(0)", x.back(0), -6);
        due.is("new: write(0, 0, 0)", x.write(0, 0, 0), -6);
    }

    private static void tape() {
        DaughtersGate x = new DaughtersGate();
        due.is("end(0)", x.end(0), 0);
        due.is("end(1)", x.end(1), -1);
        for (int n = 20; n <= 900; n += 20) {
            due.is("feed", x.feed(1, 2, 3, 4, 5), n);
        }
        due.is("feed to 920", x.feed(1, 2, 3, 4, 5), -1);
        due.is("count(8)", x.count(8), 900);
        due.is("end(901)", x.end(901), -1);
        due.is("end(-1)", x.end(-1), -1);
        due.is("end(900)", x.end(900), 900);
        due.is("end(881)", x.end(881), 881);
        due.is("feed to 901", x.feed(0, 0, 0, 0, 0), -1);
        due.is("end(880)", x.end(880), 880);
        due.is("feed to 900", x.feed(0, 0, 0, 0, 0), 900);
        // Four bytes of a number, the highest first: "shir" "e pl" "aces" " 2 h" "as 7".
        x.end(0);
        x.feed(0x73686972, 0x6520706c, 0x61636573, 0x20322068, 0x61732037);
        x.feed(0x206f7765, 0x73203820, 0x6275696c, 0x64732039, 0x2077616c);
        x.feed(0x6b20313b, 0, 0, 0, 0);
        due.is("end(44)", x.end(44), 44);
        due.is("shire()", x.shire(), 1);
        due.is("owes", x.count(3), 8);
        due.is("has", x.now(1), 7);
    }

    private static void soundTexts() {
        sound("", 0);
        sound(" \n ", 0);
        sound(HEAD, 1);
        sound(" \n" + HEAD + "\n ", 1);
        sound("shire places2has0owes0builds1walk0;", 1);
        sound("shire places 6 has 9999 owes 999 builds 999 walk 60;", 1);
        sound("shire places 0003 has 000000000000000000009 owes 9 builds 9 walk 9;", 1);
        sound(HEAD + ROAD.repeat(8) + FARMER.repeat(6) + "dragoons at 2 pace 60;dragoons at 1 pace 0;", 17);
        sound(HEAD + "road 2 to 0 miles 20 gate 99;road 0 to 2 miles 1 gate 1;", 3);
        sound(HEAD + "farmer at 2 to 0 times 9 courage 999 odds 100;farmer at 0 to 2 times 0 courage 0 odds 0;", 3);
    }

    private static void faultsOfTheHead() {
        faulty("shire places 1 has", 2, 13);
        faulty("shire places 7", 2, 13);
        faulty("shire places 3 has 10000", 2, 19);
        faulty("shire places 3 has 4294967297 owes", 2, 19);
        faulty("shire places 3 has 9 owes 1000", 2, 26);
        faulty("shire places 3 has 9 owes 9 builds 0", 2, 35);
        faulty("shire places 3 has 9 owes 9 builds 1000", 2, 35);
        faulty("shire places 3 has 9 owes 9 builds 9 walk 61", 2, 42);
        faulty("shire places 3 has 9 owes 9 builds 9 walk 9", 1, 43);
        faulty("shire places 3 has 9 owes 9 builds 9 walk 9 \n ", 1, 46);
        faulty("shire", 1, 5);
        faulty("road", 1, 0);
        faulty(" road", 1, 1);
        faulty(";", 1, 0);
        faulty("7", 1, 0);
        faulty("shires places", 1, 0);
        faulty("shire place 3", 1, 6);
        faulty("shire places x", 1, 13);
        faulty("shire places ;", 1, 13);
        faulty("shire places 3 3", 1, 15);
        faulty("shire places -3", 1, 13);
        faulty("Shire", 1, 0);
        faulty("shire\tplaces 3", 1, 5);
        faulty("shire" + (char) 0, 1, 5);
        faulty("shire places 3" + (char) 233, 1, 14);
        faulty("shire places 9" + (char) 233, 2, 13);
    }

    private static void faultsOfLines() {
        int at = HEAD.length();
        faulty(HEAD + "shire", 1, at);
        faulty(HEAD + ";", 1, at);
        faulty(HEAD + "roa", 1, at);
        faulty(HEAD + "toad 0 to 1 miles 1;", 1, at);
        faulty(HEAD + "roadz 0 to 1 miles 1;", 1, at);
        faulty(HEAD + "gate 1", 1, at);
        faulty(HEAD + "road 3", 2, at + 5);
        faulty(HEAD + "road to", 1, at + 5);
        faulty(HEAD + "road 0 to 0", 2, at + 10);
        faulty(HEAD + "road 0 to 3", 2, at + 10);
        faulty(HEAD + "road 0 0", 1, at + 7);
        faulty(HEAD + "road 0 to 1 miles 0", 2, at + 18);
        faulty(HEAD + "road 0 to 1 miles 21", 2, at + 18);
        faulty(HEAD + "road 0 to 1 miles 9 gate 0", 2, at + 25);
        faulty(HEAD + "road 0 to 1 miles 9 gate 100", 2, at + 25);
        faulty(HEAD + "road 0 to 1 miles 9 gate;", 1, at + 24);
        faulty(HEAD + "road 0 to 1 miles 9 gates 9;", 1, at + 20);
        faulty(HEAD + "road 0 to 1 miles 9 road", 1, at + 20);
        faulty(HEAD + "road 0 to 1 miles 1", 1, at + 19);
        faulty(HEAD + "farmer 0", 1, at + 7);
        faulty(HEAD + "farmer at 3", 2, at + 10);
        faulty(HEAD + "farmer at 1 to 1", 2, at + 15);
        faulty(HEAD + "farmer at 0 to 1 times 10", 2, at + 23);
        faulty(HEAD + "farmer at 0 to 1 times 9 courage 1000", 2, at + 33);
        faulty(HEAD + "farmer at 0 to 1 times 9 courage 9 odds 101", 2, at + 40);
        faulty(HEAD + "dragoons at 3", 2, at + 12);
        faulty(HEAD + "dragoons at 0 pace 61", 2, at + 19);
        faulty(HEAD + "dragoons at 0 pace 60 gate", 1, at + 22);
        faulty(HEAD + ROAD.repeat(8) + "road", 3, at + 160);
        faulty(HEAD + ROAD.repeat(8) + "roads", 1, at + 160);
        faulty(HEAD + FARMER.repeat(6) + "farmer", 3, at + 252);
    }

    private static void latestFault() {
        DaughtersGate x = new DaughtersGate();
        Due.tape(x, "shire places 7");
        x.shire();
        due.is("fault(2)", x.fault(2), -1);
        due.is("fault(-1)", x.fault(-1), -1);
        due.is("the tape behind a fault", x.count(8), 0);
        due.is("an empty tape", x.shire(), 0);
        due.is("fault(0) is of the latest", x.fault(0), 0);
        due.is("fault(1) is of the latest", x.fault(1), -1);
    }

    private static void replaced() {
        DaughtersGate x = Due.with(HEAD + "road 0 to 1 miles 1 gate 9;" + FARMER + "dragoons at 2 pace 0;");
        due.is("night(0)", x.night(0), 0);
        Due.tape(x, HEAD + "road 0 to 1 miles 1 gate 9;");
        due.is("shire() again", x.shire(), 2);
        due.is("nothing is done", x.count(6), 0);
        due.is("nights", x.now(0), 0);
        due.is("gates", x.gates(), 1);
        due.is("farmers", x.count(2), 0);
        due.is("dragoons() without a line", x.dragoons(), 0);
        due.is("shire() of nothing", x.shire(), 0);
        due.is("there is none then", x.gates(), -2);
        for (int what = 0; what <= 7; what++) {
            due.is("nothing then: count(" + what + ")", x.count(what), 0);
        }
        due.is("no roads then", x.road(0, 0), -2);
    }

    private static void told() {
        DaughtersGate x = Due.with("shire places 4 has 77 owes 11 builds 22 walk 33;road 2 to 1 miles 7;"
            + "road 0 to 3 miles 8 gate 90;farmer at 3 to 2 times 4 courage 555 odds 66;dragoons at 1 pace 1;dragoons at 2 pace 60;");
        int[] counts = {4, 2, 1, 11, 22, 33, 0, 6, 0, 0};
        for (int what = 0; what < counts.length; what++) {
            due.is("count(" + what + ")", x.count(what), counts[what]);
        }
        int[][] roads = {{2, 1, 7, 0, 0}, {0, 3, 8, 90, 1}};
        for (int r = 0; r < 2; r++) {
            for (int what = 0; what < 5; what++) {
                due.is("road(" + r + ", " + what + ")", x.road(r, what), roads[r][what]);
            }
        }
        due.is("road(2, 0)", x.road(2, 0), -2);
        due.is("road(-1, 0)", x.road(-1, 0), -2);
        due.is("road(0, 5)", x.road(0, 5), -2);
        due.is("road(0, -1)", x.road(0, -1), -2);
        int[] farmer = {3, 2, 4, 555, 66};
        for (int what = 0; what < 5; what++) {
            due.is("farmer(0, " + what + ")", x.farmer(0, what), farmer[what]);
        }
        due.is("farmer(1, 0)", x.farmer(1, 0), -2);
        due.is("farmer(-1, 0)", x.farmer(-1, 0), -2);
        due.is("farmer(0, 5)", x.farmer(0, 5), -2);
        due.is("farmer(0, -1)", x.farmer(0, -1), -2);
        due.is("the later dragoons", x.dragoons(), 2);
    }

    public static void main(String[] args) {
        newObject();
        tape();
        soundTexts();
        faultsOfTheHead();
        faultsOfLines();
        latestFault();
        replaced();
        told();
        due.close("shire text");
    }
}
