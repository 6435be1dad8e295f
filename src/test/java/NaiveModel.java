import java.util.ArrayList;
import java.util.Arrays;
import java.util.List;

/**
 * The document once more, as plainly and as slowly as can be: every way is tried, every
 * night is told again from the start. It shares no code with the program that it is held against.
 */
final class NaiveModel {
    static final class World {
        int lines, places, has, owes, builds, walk, post, pace;
        List<int[]> roads = new ArrayList<>();
        List<int[]> farmers = new ArrayList<>();
        List<Integer> acts = new ArrayList<>();

        World copy() {
            World w = new World();
            w.lines = lines; w.places = places; w.has = has; w.owes = owes; w.builds = builds;
            w.walk = walk; w.post = post; w.pace = pace;
            for (int[] r : roads) w.roads.add(r.clone());
            for (int[] f : farmers) w.farmers.add(f.clone());
            w.acts.addAll(acts);
            return w;
        }
    }

    /** How it stands behind some nights: since[g] is the night in which g was broken, or -1. */
    static final class Stand {
        int nights, money, post, rebuilt, lastPaid;
        boolean over;
        int[] since = new int[8];
        int brokenCount;
    }

    static final class Bad extends RuntimeException {
        final int kind, place;
        Bad(int kind, int place) { super("fault"); this.kind = kind; this.place = place; }
    }

    private StringBuilder tape = new StringBuilder();
    private int faultKind = 0, faultPlace = -1;
    private World w = new World();
    private final World[] images = new World[3];
    private final long[][] rows = new long[4][];
    private final int[] widths = new int[4];

    // ---- the text

    public int feed(int a, int b, int c, int d, int e) {
        if (tape.length() + 20 > 900) return -1;
        for (int v : new int[] {a, b, c, d, e})
            for (int i = 3; i >= 0; i--) tape.append((char) ((v >>> (8 * i)) & 0xff));
        return tape.length();
    }

    public int end(int n) {
        if (n < 0 || n > tape.length()) return -1;
        tape.setLength(n);
        return n;
    }

    private record Token(String text, int place) { }

    private List<Token> tokens(String s) {
        List<Token> all = new ArrayList<>();
        java.util.regex.Matcher m = java.util.regex.Pattern.compile("[a-z]+|[0-9]+|[^ \\n]", java.util.regex.Pattern.DOTALL).matcher(s);
        while (m.find()) all.add(new Token(m.group(), m.start()));
        all.add(new Token("", s.length()));
        return all;
    }

    private List<Token> left;

    private boolean see(String word) { return left.get(0).text.equals(word); }

    private void want(String word) {
        if (!see(word)) throw new Bad(1, left.get(0).place);
        left.remove(0);
    }

    private int num(int lo, int hi) {
        Token t = left.get(0);
        if (!t.text.matches("[0-9]+")) throw new Bad(1, t.place);
        java.math.BigInteger v = new java.math.BigInteger(t.text);
        if (v.compareTo(java.math.BigInteger.valueOf(lo)) < 0 || v.compareTo(java.math.BigInteger.valueOf(hi)) > 0)
            throw new Bad(2, t.place);
        left.remove(0);
        return v.intValue();
    }

    private int[] pair(int places, String first, String second) {
        if (first != null) want(first);
        int a = num(0, places - 1);
        want(second);
        int at = left.get(0).place;
        int b = num(0, places - 1);
        if (a == b) throw new Bad(2, at);
        return new int[] {a, b};
    }

    public int shire() {
        String text = tape.toString();
        tape.setLength(0);
        faultKind = 0;
        faultPlace = -1;
        World n = new World();
        left = new ArrayList<>(tokens(text));
        try {
            while (!see("")) {
                if (n.lines == 0) {
                    want("shire"); want("places"); n.places = num(2, 6);
                    want("has"); n.has = num(0, 9999);
                    want("owes"); n.owes = num(0, 999);
                    want("builds"); n.builds = num(1, 999);
                    want("walk"); n.walk = num(0, 60);
                } else if (see("road")) {
                    if (n.roads.size() == 8) throw new Bad(3, left.get(0).place);
                    left.remove(0);
                    int[] p = pair(n.places, null, "to");
                    want("miles");
                    int miles = num(1, 20);
                    int toll = 0;
                    if (see("gate")) { left.remove(0); toll = num(1, 99); }
                    n.roads.add(new int[] {p[0], p[1], miles, toll});
                } else if (see("farmer")) {
                    if (n.farmers.size() == 6) throw new Bad(3, left.get(0).place);
                    left.remove(0);
                    int[] p = pair(n.places, "at", "to");
                    want("times"); int times = num(0, 9);
                    want("courage"); int courage = num(0, 999);
                    want("odds"); int odds = num(0, 100);
                    n.farmers.add(new int[] {p[0], p[1], times, courage, odds});
                } else {
                    want("dragoons"); want("at"); n.post = num(0, n.places - 1);
                    want("pace"); n.pace = num(0, 60);
                }
                want(";");
                n.lines++;
            }
        } catch (Bad b) {
            faultKind = b.kind;
            faultPlace = b.place;
            return -4;
        }
        w = n;
        return n.lines;
    }

    public int fault(int what) { return what == 0 ? faultKind : what == 1 ? faultPlace : -1; }

    // ---- helpers

    private boolean none() { return w.lines == 0; }
    private boolean isRoad(long r) { return r >= 0 && r < w.roads.size(); }
    private boolean isGate(long r) { return isRoad(r) && w.roads.get((int) r)[3] > 0; }
    private boolean isPlace(int p) { return p >= 0 && p < w.places; }
    private boolean isFarmer(int f) { return f >= 0 && f < w.farmers.size(); }

    private int allGates() {
        int bits = 0;
        for (int r = 0; r < w.roads.size(); r++) if (isGate(r)) bits |= 1 << r;
        return bits;
    }

    private int standing(Stand s) {
        int bits = 0;
        for (int r = 0; r < w.roads.size(); r++) if (isGate(r) && s.since[r] < 0) bits |= 1 << r;
        return bits;
    }

    /** Every row of roads from a place to another without a place twice. */
    private void rowsOf(int at, int to, int seen, List<Integer> row, List<List<Integer>> out) {
        if (at == to) { out.add(new ArrayList<>(row)); return; }
        for (int r = 0; r < w.roads.size(); r++) {
            int[] x = w.roads.get(r);
            int next = x[0] == at ? x[1] : x[1] == at ? x[0] : -1;
            if (next < 0 || (seen >> next & 1) == 1) continue;
            row.add(r);
            rowsOf(next, to, seen | 1 << next, row, out);
            row.remove(row.size() - 1);
        }
    }

    private int tollsOf(List<Integer> row, int gates) {
        int sum = 0;
        for (int r : row) if ((gates >> r & 1) == 1) sum += w.roads.get(r)[3];
        return sum;
    }

    private int milesOf(List<Integer> row) {
        int sum = 0;
        for (int r : row) sum += w.roads.get(r)[2];
        return sum;
    }

    private static int compareRows(List<Integer> a, List<Integer> b) {
        for (int i = 0; i < a.size() && i < b.size(); i++) if (!a.get(i).equals(b.get(i))) return a.get(i) - b.get(i);
        return a.size() - b.size();
    }

    private List<Integer> bestRow(int from, int to, int gates) {
        List<List<Integer>> all = new ArrayList<>();
        rowsOf(from, to, 1 << from, new ArrayList<>(), all);
        List<Integer> best = null;
        for (List<Integer> row : all) {
            if (best == null) { best = row; continue; }
            int c = tollsOf(row, gates) - tollsOf(best, gates);
            if (c == 0) c = milesOf(row) - milesOf(best);
            if (c == 0) c = compareRows(row, best);
            if (c < 0) best = row;
        }
        return best;
    }

    private int far(int from, int to) {
        List<List<Integer>> all = new ArrayList<>();
        rowsOf(from, to, 1 << from, new ArrayList<>(), all);
        int best = 1000000;
        for (List<Integer> row : all) best = Math.min(best, milesOf(row));
        return best;
    }

    private int paysBy(int f, int gates) {
        int[] x = w.farmers.get(f);
        List<Integer> row = bestRow(x[0], x[1], gates);
        return row == null ? -1 : tollsOf(row, gates) * x[2];
    }

    private int allPay(int gates) {
        int sum = 0;
        for (int f = 0; f < w.farmers.size(); f++) sum += Math.max(0, paysBy(f, gates));
        return sum;
    }

    private boolean safeFrom(int gate, int post) {
        int[] r = w.roads.get(gate);
        return far(post, r[0]) > w.pace && far(post, r[1]) > w.pace;
    }

    private Stand start() {
        Stand s = new Stand();
        Arrays.fill(s.since, -1);
        s.money = w.has;
        s.post = w.post;
        return s;
    }

    private boolean can(Stand s, int gate) {
        if (s.over) return false;
        if (gate == -1) return true;
        return isGate(gate) && s.since[gate] < 0 && safeFrom(gate, s.post);
    }

    private void go(Stand s, int gate) {
        s.nights++;
        if (gate >= 0) {
            s.since[gate] = s.nights;
            s.post = Math.min(w.roads.get(gate)[0], w.roads.get(gate)[1]);
            s.brokenCount++;
        }
        s.lastPaid = allPay(standing(s));
        s.money += s.lastPaid;
        if (s.money < w.owes) { s.money = 0; s.over = true; return; }
        s.money -= w.owes;
        int oldest = -1;
        for (int g = 7; g >= 0; g--)
            if (s.since[g] >= 0 && (oldest < 0 || s.since[g] <= s.since[oldest])) oldest = g;
        if (s.money >= w.builds && oldest >= 0 && s.nights - s.since[oldest] + 1 >= 2) {
            s.money -= w.builds;
            s.since[oldest] = -1;
            s.rebuilt++;
        }
    }

    private Stand nowStand() {
        Stand s = start();
        for (int g : w.acts) go(s, g);
        return s;
    }

    private int gatesNow() { return standing(nowStand()); }

    private boolean up(int g) { return isGate(g) && (gatesNow() >> g & 1) == 1; }

    // ---- the face

    public int road(int r, int what) {
        if (!isRoad(r) || what < 0 || what > 4) return -2;
        return what < 4 ? w.roads.get(r)[what] : up(r) ? 1 : 0;
    }

    public int farmer(int f, int what) {
        return !isFarmer(f) || what < 0 || what > 4 ? -2 : w.farmers.get(f)[what];
    }

    public int miles(int a, int b) {
        if (!isPlace(a) || !isPlace(b)) return -2;
        int m = far(a, b);
        return m > 999 ? -1 : m;
    }

    public int tolls(int a, int b) {
        if (!isPlace(a) || !isPlace(b)) return -2;
        List<Integer> row = bestRow(a, b, gatesNow());
        return row == null ? -1 : tollsOf(row, gatesNow());
    }

    private List<Integer> wayOf(int f) { return bestRow(w.farmers.get(f)[0], w.farmers.get(f)[1], gatesNow()); }

    public int way(int f, int i) {
        if (!isFarmer(f)) return -2;
        List<Integer> row = wayOf(f);
        return row == null || i < 0 || i >= row.size() ? -1 : row.get(i);
    }

    public int pays(int f) { return isFarmer(f) ? paysBy(f, gatesNow()) : -2; }

    public int uses(int r) {
        if (!isRoad(r)) return -2;
        int bits = 0;
        for (int f = 0; f < w.farmers.size(); f++) {
            List<Integer> row = wayOf(f);
            if (row != null && row.contains(r)) bits |= 1 << f;
        }
        return bits;
    }

    public int income() { return none() ? -2 : allPay(gatesNow()); }
    public int gates() { return none() ? -2 : gatesNow(); }

    public int idle() {
        if (none()) return -2;
        int bits = 0;
        for (int g = 0; g < w.roads.size(); g++) if (up(g) && uses(g) == 0) bits |= 1 << g;
        return bits;
    }

    public int loss(int g) { return up(g) ? allPay(gatesNow()) - allPay(gatesNow() ^ 1 << g) : -2; }

    public int first() {
        if (none()) return -2;
        int best = -1;
        for (int g = w.roads.size() - 1; g >= 0; g--) if (up(g) && (best < 0 || loss(g) >= loss(best))) best = g;
        return best;
    }

    public int spoil(int n) { return none() || n < 0 || n > 8 ? -2 : allPay(gatesNow() & ~spoils(n)); }

    public int spoils(int n) {
        if (none() || n < 0 || n > 8) return -2;
        int gates = gatesNow(), size = Math.min(n, Integer.bitCount(gates)), best = -1;
        for (int set = 255; set >= 0; set--)
            if ((set & gates) == set && Integer.bitCount(set) == size
                    && (best < 0 || allPay(gates ^ set) <= allPay(gates ^ best))) best = set;
        return best;
    }

    private int angryBits() {
        int bits = 0;
        for (int f = 0; f < w.farmers.size(); f++) if (pays(f) > w.farmers.get(f)[3]) bits |= 1 << f;
        return bits;
    }

    public int angry() { return none() ? -2 : angryBits(); }

    private int[] incomesByToll(int g) {
        int was = w.roads.get(g)[3], gates = gatesNow();
        int[] all = new int[100];
        for (int t = 1; t <= 99; t++) { w.roads.get(g)[3] = t; all[t] = allPay(gates); }
        w.roads.get(g)[3] = was;
        return all;
    }

    public int ask(int g) {
        if (!up(g)) return -2;
        int[] all = incomesByToll(g);
        int best = 99;
        for (int t = 98; t >= 1; t--) if (all[t] >= all[best]) best = t;
        return best;
    }

    public int asks(int g) { return up(g) ? incomesByToll(g)[ask(g)] : -2; }

    public int quiet(int g) {
        if (!up(g)) return -2;
        int was = w.roads.get(g)[3], gates = gatesNow(), best = -1;
        for (int t = 1; t <= 99; t++) {
            w.roads.get(g)[3] = t;
            boolean calm = true;
            for (int f = 0; f < w.farmers.size(); f++) calm &= paysBy(f, gates) <= w.farmers.get(f)[3];
            if (calm) best = t;
        }
        w.roads.get(g)[3] = was;
        return best;
    }

    public int furious() {
        if (none()) return -2;
        int best = -1, most = 0;
        for (int f = 0; f < w.farmers.size(); f++) {
            int above = pays(f) - w.farmers.get(f)[3];
            if (above > most) { best = f; most = above; }
        }
        return best;
    }

    public int trip(int f) {
        if (!isFarmer(f)) return -2;
        List<Integer> row = wayOf(f);
        return row == null ? -1 : milesOf(row);
    }

    public int barn(int p) {
        if (!isPlace(p)) return -2;
        int bits = 0;
        for (int f = 0; f < w.farmers.size(); f++) if (far(p, w.farmers.get(f)[0]) <= w.walk) bits |= 1 << f;
        return bits;
    }

    public int barns() {
        if (none()) return -2;
        int best = w.places - 1;
        for (int p = w.places - 2; p >= 0; p--) if (Integer.bitCount(barn(p)) >= Integer.bitCount(barn(best))) best = p;
        return best;
    }

    public int horn(int p, int n) {
        if (!isPlace(p) || n < 0 || n > 99) return -2;
        int bits = 0;
        for (int q = 0; q < w.places; q++) if (far(p, q) <= n) bits |= 1 << q;
        return bits;
    }

    public int bond(int n) {
        if (none() || n < 0 || n > 60) return -2;
        Stand s = nowStand();
        for (int i = 0; i < n; i++) if (!s.over) go(s, -1);
        return s.money;
    }

    private void orders(List<Integer> left, List<Integer> row, List<List<Integer>> out) {
        if (left.isEmpty()) { out.add(new ArrayList<>(row)); return; }
        for (int i = 0; i < left.size(); i++) {
            List<Integer> rest = new ArrayList<>(left);
            row.add(rest.remove(i));
            orders(rest, row, out);
            row.remove(row.size() - 1);
        }
    }

    private int roundTolls(int home, List<Integer> order) {
        int sum = 0, at = home;
        List<Integer> all = new ArrayList<>(order);
        all.add(home);
        for (int p : all) {
            int t = tolls(at, p);
            if (t < 0) return -1;
            sum += t;
            at = p;
        }
        return sum;
    }

    private boolean badRound(int f, int set) { return !isFarmer(f) || set < 0 || set >= 1 << w.places; }

    private List<Integer> bestOrder(int f, int set) {
        int home = w.farmers.get(f)[0];
        List<Integer> stops = new ArrayList<>();
        for (int p = 0; p < w.places; p++) if ((set >> p & 1) == 1 && p != home) stops.add(p);
        List<List<Integer>> all = new ArrayList<>();
        orders(stops, new ArrayList<>(), all);
        List<Integer> best = null;
        for (List<Integer> o : all) {
            int t = roundTolls(home, o);
            if (t < 0) continue;
            int c = best == null ? -1 : t - roundTolls(home, best);
            if (c == 0) c = compareRows(o, best);
            if (c < 0) best = o;
        }
        return best;
    }

    public int round(int f, int set) {
        if (badRound(f, set)) return -2;
        List<Integer> o = bestOrder(f, set);
        return o == null ? -1 : roundTolls(w.farmers.get(f)[0], o);
    }

    public int rounds(int f, int set, int i) {
        if (badRound(f, set)) return -2;
        List<Integer> o = bestOrder(f, set);
        return o == null || i < 0 || i >= o.size() ? -1 : o.get(i);
    }

    public int dragoons() { return none() ? -2 : nowStand().post; }
    public int safe(int g) { return up(g) ? (can(nowStand(), g) ? 1 : 0) : -2; }

    public int open() {
        if (none()) return -2;
        int bits = 0;
        for (int g = 0; g < w.roads.size(); g++) if (can(nowStand(), g)) bits |= 1 << g;
        return bits;
    }

    private int gain(int p, int g) { return safeFrom(g, p) ? loss(g) : 0; }

    private int mostAt(int p) {
        int most = 0;
        for (int g = 0; g < w.roads.size(); g++) if (up(g)) most = Math.max(most, gain(p, g));
        return most;
    }

    public int lie() {
        if (none()) return -2;
        for (int p = 0; p < w.places; p++) if (mostAt(p) == lies()) return p;
        throw new IllegalStateException();
    }

    public int lies() {
        if (none()) return -2;
        int least = 1000000;
        for (int p = 0; p < w.places; p++) least = Math.min(least, mostAt(p));
        return least;
    }

    public int sure() {
        if (none()) return -2;
        int best = -1, most = 0;
        for (int g = 0; g < w.roads.size(); g++) {
            int n = 0;
            for (int p = 0; p < w.places; p++) if (up(g) && safeFrom(g, p)) n++;
            if (n > most) { most = n; best = g; }
        }
        return best;
    }

    public int rests() {
        if (none()) return -2;
        int n = 0;
        for (int p = 0; p < w.places; p++)
            for (int g = 0; g < w.roads.size(); g++) {
                if (!up(g)) continue;
                boolean rest = true;
                for (int q = 0; q < w.places; q++) rest &= gain(q, g) >= gain(p, g);
                for (int h = 0; h < w.roads.size(); h++) rest &= !up(h) || gain(p, h) <= gain(p, g);
                if (rest) n++;
            }
        return n;
    }

    public int night(int g) {
        if (none() || g != -1 && !isGate(g)) return -2;
        if (w.acts.size() >= 40 || !can(nowStand(), g)) return -5;
        w.acts.add(g);
        return nowStand().lastPaid;
    }

    public int now(int what) {
        if (none() || what < 0 || what > 4) return -2;
        Stand s = nowStand();
        return new int[] {s.nights, s.money, s.over ? 1 : 0, allGates() & ~standing(s), s.rebuilt}[what];
    }

    public int down(int g) {
        if (!isGate(g)) return -2;
        Stand s = nowStand();
        return s.since[g] < 0 ? -1 : s.nights - s.since[g] + 1;
    }

    public int undo() {
        if (none()) return -2;
        if (w.acts.isEmpty()) return -5;
        w.acts.remove(w.acts.size() - 1);
        return w.acts.size();
    }

    public int anew() {
        if (none()) return -2;
        int n = w.acts.size();
        w.acts.clear();
        return n;
    }

    public int lasts() {
        if (none()) return -2;
        Stand s = nowStand();
        for (int n = 0; n <= 60; n++) {
            if (s.over) return n;
            go(s, -1);
        }
        return -1;
    }

    private List<Integer> firstPlan() {
        List<List<Integer>> level = new ArrayList<>();
        level.add(new ArrayList<>());
        for (int n = 0; n <= 4; n++) {
            List<List<Integer>> next = new ArrayList<>();
            for (List<Integer> row : level) {
                Stand s = nowStand();
                for (int g : row) go(s, g);
                if (s.over) return row;
                for (int g = -1; g < w.roads.size() && n < 4; g++)
                    if (can(s, g)) { List<Integer> r = new ArrayList<>(row); r.add(g); next.add(r); }
            }
            level = next;
        }
        return null;
    }

    public int fewest() {
        if (none()) return -2;
        List<Integer> row = firstPlan();
        return row == null ? -1 : row.size();
    }

    public int plan(int i) {
        if (none()) return -2;
        List<Integer> row = firstPlan();
        return row == null || i < 0 || i >= row.size() ? -3 : row.get(i);
    }

    private int rowFault(int slot, boolean noneGoes) {
        if (slot < 0 || slot > 3 || none()) return -2;
        if (rows[slot] == null) return -6;
        for (long v : rows[slot]) if (!(noneGoes && v == -1) && !isGate(v)) return -2;
        return 0;
    }

    private Stand judged(int slot) {
        Stand s = start();
        for (long v : rows[slot]) {
            if (!can(s, (int) v)) break;
            go(s, (int) v);
        }
        return s;
    }

    public int judge(int slot) { return rowFault(slot, true) < 0 ? rowFault(slot, true) : judged(slot).nights; }
    public int funds(int slot) { return rowFault(slot, true) < 0 ? rowFault(slot, true) : judged(slot).money; }

    private java.math.BigInteger[] chance(int set) {
        java.math.BigInteger a = java.math.BigInteger.ONE, b = a;
        for (int f = 0; f < w.farmers.size(); f++)
            if ((set >> f & 1) == 1) {
                a = a.multiply(java.math.BigInteger.valueOf(100 - w.farmers.get(f)[4]));
                b = b.multiply(java.math.BigInteger.valueOf(100));
            }
        java.math.BigInteger g = a.gcd(b);
        return new java.math.BigInteger[] {a.divide(g), b.divide(g)};
    }

    public long band(int set, int what) {
        if (none() || set < 0 || set >= 1 << w.farmers.size() || what < 0 || what > 1) return -2;
        return chance(set)[what].longValueExact();
    }

    public int most(int n) { return none() || n < 0 || n > 100 ? -2 : Integer.bitCount(bands(n)); }

    public int bands(int n) {
        if (none() || n < 0 || n > 100) return -2;
        for (int size = w.farmers.size(); size >= 0; size--)
            for (int set = 0; set < 1 << w.farmers.size(); set++) {
                java.math.BigInteger[] c = chance(set);
                if (Integer.bitCount(set) == size && c[0].multiply(java.math.BigInteger.valueOf(100))
                        .compareTo(c[1].multiply(java.math.BigInteger.valueOf(n))) >= 0) return set;
            }
        throw new IllegalStateException();
    }

    public int inform(int reward, int n) {
        if (none() || reward < 0 || reward > 9999 || n < 0 || n > 99) return -2;
        int bits = 0;
        for (int f = 0; f < w.farmers.size(); f++) if (Math.max(0, pays(f)) * n < reward) bits |= 1 << f;
        return bits;
    }

    public int dear(int n) {
        if (none() || n < 0 || n > 99) return -2;
        int least = 10000;
        for (int f = 0; f < w.farmers.size(); f++) least = Math.min(least, Math.max(0, pays(f)) * n + 1);
        return least > 9999 ? -1 : least;
    }

    private boolean near(int f, int g) {
        int home = w.farmers.get(f)[0];
        return Math.min(far(home, w.roads.get(g)[0]), far(home, w.roads.get(g)[1])) <= w.walk;
    }

    private List<Integer> suspects(int slot) {
        List<Integer> all = new ArrayList<>();
        for (int f = 0; f < w.farmers.size(); f++) {
            boolean in = true;
            for (long g : rows[slot]) in &= near(f, (int) g);
            if (in) all.add(f);
        }
        return all;
    }

    public int who(int slot) {
        if (rowFault(slot, false) < 0) return rowFault(slot, false);
        int bits = 0;
        for (int f : suspects(slot)) bits |= 1 << f;
        return bits;
    }

    private int worst(List<Integer> all, int g) {
        int in = 0, out = 0;
        for (int f : all) if (near(f, g)) in++; else out++;
        return Math.max(in, out);
    }

    public int watch(int slot) {
        if (rowFault(slot, false) < 0) return rowFault(slot, false);
        List<Integer> all = suspects(slot);
        int best = -1, least = all.size();
        for (int g = 0; g < w.roads.size(); g++)
            if (isGate(g) && worst(all, g) < least) { least = worst(all, g); best = g; }
        return best;
    }

    public int leaves(int slot) {
        if (rowFault(slot, false) < 0) return rowFault(slot, false);
        return watch(slot) < 0 ? suspects(slot).size() : worst(suspects(slot), watch(slot));
    }

    private Stand drawnStand(long seed, int n) {
        Stand s = nowStand();
        s.brokenCount = 0;
        java.math.BigInteger x = java.math.BigInteger.valueOf(seed);
        for (int i = 0; i < n; i++) {
            if (s.over) break;
            x = x.multiply(java.math.BigInteger.valueOf(1103515245)).add(java.math.BigInteger.valueOf(12345))
                    .mod(java.math.BigInteger.TWO.pow(31));
            int r = x.shiftRight(16).mod(java.math.BigInteger.valueOf(w.roads.size() + 1)).intValue();
            go(s, r < w.roads.size() && can(s, r) ? r : -1);
        }
        return s;
    }

    private boolean badDraw(int seed, int n) { return none() || seed < 0 || seed > 2000000000 || n < 0 || n > 30; }

    public int drawn(int seed, int n, int what) {
        if (badDraw(seed, n) || what < 0 || what > 2) return -2;
        Stand s = drawnStand(seed, n);
        return new int[] {s.money, s.over ? 1 : 0, s.brokenCount}[what];
    }

    public int luck(int seed, int m, int n) {
        if (badDraw(seed, n) || m < 1 || m > 20) return -2;
        int sum = 0;
        for (int i = 0; i < m; i++) if (drawnStand((long) seed + i, n).over) sum++;
        return sum;
    }

    public int rate(int g, int n) {
        if (!isGate(g) || n < 1 || n > 99) return -2;
        if (!w.acts.isEmpty()) return -5;
        int was = w.roads.get(g)[3];
        w.roads.get(g)[3] = n;
        return was;
    }

    public int times(int f, int n) {
        if (!isFarmer(f) || n < 0 || n > 9) return -2;
        if (!w.acts.isEmpty()) return -5;
        int was = w.farmers.get(f)[2];
        w.farmers.get(f)[2] = n;
        return was;
    }

    public int count(int what) {
        if (what < 0 || what > 9) return -1;
        int filled = 0;
        for (long[] r : rows) if (r != null) filled++;
        return new int[] {w.places, w.roads.size(), w.farmers.size(), w.owes, w.builds, w.walk,
            w.acts.size(), w.lines, tape.length(), filled}[what];
    }

    public int image(int k) {
        if (k < 0 || k > 2) return -2;
        images[k] = w.copy();
        return 0;
    }

    public int back(int k) {
        if (k < 0 || k > 2) return -2;
        if (images[k] == null) return -6;
        w = images[k].copy();
        return 0;
    }

    public int row(int slot, int width, int n) {
        if (slot < 0 || slot > 3 || width < 0 || width > 3 || n > 60) return -2;
        if (n < 0) return -3;
        rows[slot] = new long[n];
        widths[slot] = width;
        return 0;
    }

    public int write(int slot, int i, long v) {
        if (slot < 0 || slot > 3) return -2;
        if (rows[slot] == null) return -6;
        if (i < 0 || i >= rows[slot].length) return -7;
        int drop = 64 - (8 << widths[slot]);
        rows[slot][i] = v << drop >> drop;
        return 0;
    }

    public int paste(int slot, int i, int to, int k, int n) {
        if (slot < 0 || slot > 3 || to < 0 || to > 3) return -2;
        if (rows[slot] == null || rows[to] == null) return -6;
        if (widths[slot] != widths[to]) return -8;
        if (i < 0 || k < 0 || n < 0 || (long) i + n > rows[slot].length || (long) k + n > rows[to].length) return -7;
        long[] was = rows[slot].clone();
        for (int j = 0; j < n; j++) rows[to][k + j] = was[i + j];
        return 0;
    }
}
