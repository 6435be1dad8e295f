/** Texts of shires, line by line. */
final class Land {
    private Land() { }

    static String head(int places, int has, int owes, int builds, int walk) {
        return "shire places " + places + " has " + has + " owes " + owes + " builds " + builds + " walk " + walk + ";";
    }

    /** A trust that has nothing and owes nothing, and farmers who don't walk. */
    static String head(int places) {
        return head(places, 0, 0, 1, 0);
    }

    static String road(int from, int to, int miles) {
        return "road " + from + " to " + to + " miles " + miles + ";";
    }

    static String gate(int from, int to, int miles, int toll) {
        return "road " + from + " to " + to + " miles " + miles + " gate " + toll + ";";
    }

    static String farmer(int at, int to, int times, int courage, int odds) {
        return "farmer at " + at + " to " + to + " times " + times + " courage " + courage + " odds " + odds + ";";
    }

    /** One who goes so often, with no courage, and who never informs. */
    static String farmer(int at, int to, int times) {
        return farmer(at, to, times, 0, 0);
    }

    static String dragoons(int at, int pace) {
        return "dragoons at " + at + " pace " + pace + ";";
    }

    /** Six places in a row, 20 miles and a gate of 99 between each two: the longest and dearest way there can be. */
    static String chain() {
        StringBuilder s = new StringBuilder(head(6));
        for (int p = 0; p < 5; p++) {
            s.append(gate(p, p + 1, 20, 99));
        }
        return s.toString();
    }
}
