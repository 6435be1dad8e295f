import java.util.Arrays;

/**
 * Daughters at the gate: a shire of places, roads with gates, farmers, a trust and dragoons.
 * What each method answers is told, promise by promise, in shared/DOC.md.
 */
public final class DaughtersGate {
    public static final int NONE = -1;

    private static final int NO_SUCH = -2;
    private static final int BELOW = -3;
    private static final int FAULTY = -4;
    private static final int REFUSED = -5;
    private static final int NOTHING = -6;
    private static final int BEYOND = -7;
    private static final int UNLIKE = -8;

    private static final int MAX_TAPE = 900;
    private static final int MAX_PLACES = 6;
    private static final int MAX_ROADS = 8;
    private static final int MAX_FARMERS = 6;
    private static final int MAX_ACTS = 40;
    private static final int MAX_ROW = 60;
    private static final int MAX_TOLL = 99;
    private static final int MAX_AHEAD = 60;
    private static final int MAX_PLAN = 4;
    private static final int MAX_REWARD = 9999;
    private static final int SLOTS = 4;
    private static final int IMAGES = 3;

    private final Tape tape = new Tape();
    private final Shire draft = new Shire();
    private final Atlas atlas = new Atlas();
    private final Shire shire = atlas.shire;
    private final int[] acts = new int[MAX_ACTS];
    private int actCount;
    private final State state = new State();
    private final State trial = new State();
    private final int[] losses = new int[MAX_ROADS];
    private final Planner planner = new Planner();
    private final Tour tour = new Tour();
    private final Image[] images = new Image[IMAGES];
    private final Slot[] slots = new Slot[SLOTS];

    public DaughtersGate() {
        for (int k = 0; k < IMAGES; k++) {
            images[k] = new Image();
        }
        for (int s = 0; s < SLOTS; s++) {
            slots[s] = new Slot();
        }
    }

    // The tape and what is read of it.

    public int feed(int a, int b, int c, int d, int e) {
        if (tape.length > MAX_TAPE - 20) {
            return NONE;
        }
        tape.put(a);
        tape.put(b);
        tape.put(c);
        tape.put(d);
        tape.put(e);
        return tape.length;
    }

    public int end(int n) {
        if (n < 0 || n > tape.length) {
            return NONE;
        }
        tape.length = n;
        return n;
    }

    public int shire() {
        tape.read(draft);
        tape.length = 0;
        if (tape.fault != 0) {
            return FAULTY;
        }
        shire.copyOf(draft);
        actCount = 0;
        atlas.survey();
        retell();
        return shire.lines;
    }

    public int fault(int what) {
        if (what == 0) {
            return tape.fault;
        }
        return what == 1 ? tape.faultPlace : NONE;
    }

    // The state now is never kept with an act: it is told again from the start, so that
    // taking back and going back to an image need no rows of old states.
    private void retell() {
        state.begin(shire);
        for (int i = 0; i < actCount; i++) {
            state.pass(atlas, acts[i]);
        }
        planner.forget();
    }

    // What there is.

    private boolean noShire() {
        return shire.lines == 0;
    }

    private boolean hasPlace(int place) {
        return place >= 0 && place < shire.places;
    }

    private boolean hasRoad(long road) {
        return road >= 0 && road < shire.roadCount;
    }

    private boolean hasGate(long road) {
        return hasRoad(road) && (shire.gateBits() >> (int) road & 1) == 1;
    }

    private boolean stands(int gate) {
        return hasGate(gate) && state.isUp(gate);
    }

    private boolean hasFarmer(int farmer) {
        return farmer >= 0 && farmer < shire.farmerCount;
    }

    private static boolean within(int n, int least, int most) {
        return n >= least && n <= most;
    }

    private static int bit(int i, boolean set) {
        return set ? 1 << i : 0;
    }

    public int road(int road, int what) {
        if (!hasRoad(road)) {
            return NO_SUCH;
        }
        Road r = shire.roads[road];
        switch (what) {
            case 0: return r.from;
            case 1: return r.to;
            case 2: return r.length;
            case 3: return r.toll;
            case 4: return state.isUp(road) ? 1 : 0;
            default: return NO_SUCH;
        }
    }

    public int farmer(int farmer, int what) {
        if (!hasFarmer(farmer)) {
            return NO_SUCH;
        }
        Farmer f = shire.farmers[farmer];
        switch (what) {
            case 0: return f.home;
            case 1: return f.goal;
            case 2: return f.often;
            case 3: return f.courage;
            case 4: return f.odds;
            default: return NO_SUCH;
        }
    }

    public int count(int what) {
        switch (what) {
            case 0: return shire.places;
            case 1: return shire.roadCount;
            case 2: return shire.farmerCount;
            case 3: return shire.owes;
            case 4: return shire.builds;
            case 5: return shire.walk;
            case 6: return actCount;
            case 7: return shire.lines;
            case 8: return tape.length;
            case 9: return filledSlots();
            default: return NONE;
        }
    }

    private int filledSlots() {
        int filled = 0;
        for (int s = 0; s < SLOTS; s++) {
            if (slots[s].isFilled()) {
                filled++;
            }
        }
        return filled;
    }

    // Ways and tolls.

    public int miles(int place, int other) {
        if (!hasPlace(place) || !hasPlace(other)) {
            return NO_SUCH;
        }
        int far = atlas.apart(place, other);
        return far >= Atlas.FAR ? NONE : far;
    }

    public int tolls(int place, int other) {
        if (!hasPlace(place) || !hasPlace(other)) {
            return NO_SUCH;
        }
        atlas.weigh(state.standing, NONE);
        return atlas.leastTolls(place, other);
    }

    public int way(int farmer, int i) {
        if (!hasFarmer(farmer)) {
            return NO_SUCH;
        }
        int steps = atlas.trace(farmer, state.standing);
        return i >= 0 && i < steps ? atlas.trail[i] : NONE;
    }

    public int pays(int farmer) {
        if (!hasFarmer(farmer)) {
            return NO_SUCH;
        }
        atlas.weigh(state.standing, NONE);
        return atlas.fare(farmer);
    }

    public int uses(int road) {
        if (!hasRoad(road)) {
            return NO_SUCH;
        }
        int users = 0;
        for (int f = 0; f < shire.farmerCount; f++) {
            users |= bit(f, (trailBits(f) >> road & 1) == 1);
        }
        return users;
    }

    private int trailBits(int farmer) {
        int steps = atlas.trace(farmer, state.standing);
        int bits = 0;
        for (int i = 0; i < steps; i++) {
            bits |= 1 << atlas.trail[i];
        }
        return bits;
    }

    public int trip(int farmer) {
        if (!hasFarmer(farmer)) {
            return NO_SUCH;
        }
        atlas.weigh(state.standing, NONE);
        return atlas.tripMiles(farmer);
    }

    public int income() {
        return noShire() ? NO_SUCH : atlas.takings(state.standing);
    }

    public int gates() {
        return noShire() ? NO_SUCH : state.standing;
    }

    public int idle() {
        if (noShire()) {
            return NO_SUCH;
        }
        int used = 0;
        for (int f = 0; f < shire.farmerCount; f++) {
            used |= trailBits(f);
        }
        return state.standing & ~used;
    }

    // What a gate brings, and what to ask for it.

    public int loss(int gate) {
        return stands(gate) ? lossOf(gate) : NO_SUCH;
    }

    private int lossOf(int gate) {
        int without = state.standing & ~(1 << gate);
        return atlas.takings(state.standing) - atlas.takings(without);
    }

    public int first() {
        if (noShire()) {
            return NO_SUCH;
        }
        int best = NONE;
        int most = NONE;
        for (int g = 0; g < shire.roadCount; g++) {
            if (state.isUp(g) && lossOf(g) > most) {
                most = lossOf(g);
                best = g;
            }
        }
        return best;
    }

    public int spoil(int n) {
        if (noShire() || !within(n, 0, MAX_ROADS)) {
            return NO_SUCH;
        }
        return atlas.takings(state.standing & ~worstSet(n));
    }

    public int spoils(int n) {
        if (noShire() || !within(n, 0, MAX_ROADS)) {
            return NO_SUCH;
        }
        return worstSet(n);
    }

    private int worstSet(int n) {
        int size = Math.min(n, Integer.bitCount(state.standing));
        int best = 0;
        int least = Atlas.FAR;
        for (int set = 0; set < 1 << MAX_ROADS; set++) {
            if ((set & ~state.standing) != 0 || Integer.bitCount(set) != size) {
                continue;
            }
            int paid = atlas.takings(state.standing & ~set);
            if (paid < least) {
                least = paid;
                best = set;
            }
        }
        return best;
    }

    public int ask(int gate) {
        return stands(gate) ? bestToll(gate) : NO_SUCH;
    }

    public int asks(int gate) {
        if (!stands(gate)) {
            return NO_SUCH;
        }
        int toll = bestToll(gate);
        return atlas.takingsAt(gate, toll);
    }

    private int bestToll(int gate) {
        atlas.weigh(state.standing, gate);
        int best = 1;
        int most = NONE;
        for (int toll = 1; toll <= MAX_TOLL; toll++) {
            int paid = atlas.takingsAt(gate, toll);
            if (paid > most) {
                most = paid;
                best = toll;
            }
        }
        return best;
    }

    public int quiet(int gate) {
        if (!stands(gate)) {
            return NO_SUCH;
        }
        atlas.weigh(state.standing, gate);
        for (int toll = MAX_TOLL; toll >= 1; toll--) {
            if (!atlas.angersAt(gate, toll)) {
                return toll;
            }
        }
        return NONE;
    }

    public int angry() {
        if (noShire()) {
            return NO_SUCH;
        }
        atlas.weigh(state.standing, NONE);
        int bits = 0;
        for (int f = 0; f < shire.farmerCount; f++) {
            bits |= bit(f, atlas.fare(f) > shire.farmers[f].courage);
        }
        return bits;
    }

    public int furious() {
        if (noShire()) {
            return NO_SUCH;
        }
        atlas.weigh(state.standing, NONE);
        int best = NONE;
        int most = 0;
        for (int f = 0; f < shire.farmerCount; f++) {
            int above = atlas.fare(f) - shire.farmers[f].courage;
            if (above > most) {
                most = above;
                best = f;
            }
        }
        return best;
    }

    public int rate(int gate, int n) {
        if (!hasGate(gate) || !within(n, 1, MAX_TOLL)) {
            return NO_SUCH;
        }
        if (actCount > 0) {
            return REFUSED;
        }
        int was = shire.roads[gate].toll;
        shire.roads[gate].toll = n;
        atlas.forget();
        planner.forget();
        return was;
    }

    public int times(int farmer, int n) {
        if (!hasFarmer(farmer) || !within(n, 0, 9)) {
            return NO_SUCH;
        }
        if (actCount > 0) {
            return REFUSED;
        }
        int was = shire.farmers[farmer].often;
        shire.farmers[farmer].often = n;
        atlas.forget();
        planner.forget();
        return was;
    }

    // Barns, horns and rounds.

    public int barn(int place) {
        return hasPlace(place) ? barnBits(place) : NO_SUCH;
    }

    private int barnBits(int place) {
        int bits = 0;
        for (int f = 0; f < shire.farmerCount; f++) {
            bits |= bit(f, atlas.apart(shire.farmers[f].home, place) <= shire.walk);
        }
        return bits;
    }

    public int barns() {
        if (noShire()) {
            return NO_SUCH;
        }
        int best = 0;
        for (int p = 1; p < shire.places; p++) {
            if (Integer.bitCount(barnBits(p)) > Integer.bitCount(barnBits(best))) {
                best = p;
            }
        }
        return best;
    }

    public int horn(int place, int n) {
        if (!hasPlace(place) || !within(n, 0, 99)) {
            return NO_SUCH;
        }
        int bits = 0;
        for (int p = 0; p < shire.places; p++) {
            bits |= bit(p, atlas.apart(place, p) <= n);
        }
        return bits;
    }

    public int round(int farmer, int set) {
        if (!hasFarmer(farmer) || !within(set, 0, (1 << shire.places) - 1)) {
            return NO_SUCH;
        }
        atlas.weigh(state.standing, NONE);
        return tour.seek(atlas, shire.farmers[farmer].home, set);
    }

    public int rounds(int farmer, int set, int i) {
        if (!hasFarmer(farmer) || !within(set, 0, (1 << shire.places) - 1)) {
            return NO_SUCH;
        }
        atlas.weigh(state.standing, NONE);
        int least = tour.seek(atlas, shire.farmers[farmer].home, set);
        return least != NONE && i >= 0 && i < tour.stops ? tour.best[i] : NONE;
    }

    // Dragoons.

    public int dragoons() {
        return noShire() ? NO_SUCH : state.post;
    }

    public int safe(int gate) {
        if (!stands(gate)) {
            return NO_SUCH;
        }
        return state.mayBreak(atlas, gate) ? 1 : 0;
    }

    public int open() {
        if (noShire()) {
            return NO_SUCH;
        }
        int bits = 0;
        for (int g = 0; g < shire.roadCount; g++) {
            bits |= bit(g, state.mayBreak(atlas, g));
        }
        return bits;
    }

    private void measureLosses() {
        for (int g = 0; g < MAX_ROADS; g++) {
            losses[g] = state.isUp(g) ? lossOf(g) : 0;
        }
    }

    // What the trust loses by a gate while dragoons lie at a place, as latest measured.
    private int lossFrom(int place, int gate) {
        return atlas.isSafe(gate, place) ? losses[gate] : 0;
    }

    private int worstFrom(int place) {
        int worst = 0;
        for (int g = 0; g < shire.roadCount; g++) {
            if (state.isUp(g)) {
                worst = Math.max(worst, lossFrom(place, g));
            }
        }
        return worst;
    }

    public int lie() {
        if (noShire()) {
            return NO_SUCH;
        }
        measureLosses();
        int best = 0;
        for (int p = 1; p < shire.places; p++) {
            if (worstFrom(p) < worstFrom(best)) {
                best = p;
            }
        }
        return best;
    }

    public int lies() {
        if (noShire()) {
            return NO_SUCH;
        }
        measureLosses();
        int least = worstFrom(0);
        for (int p = 1; p < shire.places; p++) {
            least = Math.min(least, worstFrom(p));
        }
        return least;
    }

    public int sure() {
        if (noShire()) {
            return NO_SUCH;
        }
        int best = NONE;
        int most = 0;
        for (int g = 0; g < shire.roadCount; g++) {
            int places = state.isUp(g) ? safePlaces(g) : 0;
            if (places > most) {
                most = places;
                best = g;
            }
        }
        return best;
    }

    private int safePlaces(int gate) {
        int places = 0;
        for (int p = 0; p < shire.places; p++) {
            if (atlas.isSafe(gate, p)) {
                places++;
            }
        }
        return places;
    }

    public int rests() {
        if (noShire()) {
            return NO_SUCH;
        }
        measureLosses();
        int pairs = 0;
        for (int g = 0; g < shire.roadCount; g++) {
            for (int p = 0; p < shire.places && state.isUp(g); p++) {
                if (isRest(p, g)) {
                    pairs++;
                }
            }
        }
        return pairs;
    }

    private boolean isRest(int place, int gate) {
        int lost = lossFrom(place, gate);
        if (worstFrom(place) > lost) {
            return false;
        }
        for (int p = 0; p < shire.places; p++) {
            if (lossFrom(p, gate) < lost) {
                return false;
            }
        }
        return true;
    }

    // Nights.

    public int night(int gate) {
        if (noShire() || gate != NONE && !hasGate(gate)) {
            return NO_SUCH;
        }
        if (actCount >= MAX_ACTS || !state.mayPass(atlas, gate)) {
            return REFUSED;
        }
        acts[actCount] = gate;
        actCount++;
        planner.forget();
        return state.pass(atlas, gate);
    }

    public int now(int what) {
        if (noShire()) {
            return NO_SUCH;
        }
        switch (what) {
            case 0: return state.nights;
            case 1: return state.purse;
            case 2: return state.gaveUp ? 1 : 0;
            case 3: return shire.gateBits() & ~state.standing;
            case 4: return state.rebuilt;
            default: return NO_SUCH;
        }
    }

    public int down(int gate) {
        if (!hasGate(gate)) {
            return NO_SUCH;
        }
        return state.isUp(gate) ? NONE : state.fallen[gate];
    }

    public int undo() {
        if (noShire()) {
            return NO_SUCH;
        }
        if (actCount == 0) {
            return REFUSED;
        }
        actCount--;
        retell();
        return actCount;
    }

    public int anew() {
        if (noShire()) {
            return NO_SUCH;
        }
        int were = actCount;
        actCount = 0;
        retell();
        return were;
    }

    public int bond(int n) {
        if (noShire() || !within(n, 0, MAX_AHEAD)) {
            return NO_SUCH;
        }
        waitNights(n);
        return trial.purse;
    }

    public int lasts() {
        if (noShire()) {
            return NO_SUCH;
        }
        int passed = waitNights(MAX_AHEAD);
        return trial.gaveUp ? passed : NONE;
    }

    private int waitNights(int n) {
        trial.copyOf(state);
        int passed = 0;
        while (passed < n && !trial.gaveUp) {
            trial.pass(atlas, NONE);
            passed++;
        }
        return passed;
    }

    public int fewest() {
        return noShire() ? NO_SUCH : planner.seek(atlas, state);
    }

    public int plan(int i) {
        if (noShire()) {
            return NO_SUCH;
        }
        int nights = planner.seek(atlas, state);
        return i >= 0 && i < nights ? planner.gates[i] : BELOW;
    }

    // Rows that are judged.

    public int judge(int slot) {
        int wrong = checkRow(slot, true);
        return wrong != 0 ? wrong : judgeRow(slots[slot]);
    }

    public int funds(int slot) {
        int wrong = checkRow(slot, true);
        if (wrong != 0) {
            return wrong;
        }
        judgeRow(slots[slot]);
        return trial.purse;
    }

    private int judgeRow(Slot slot) {
        trial.begin(shire);
        int passed = 0;
        while (passed < slot.size && trial.mayPass(atlas, (int) slot.numbers[passed])) {
            trial.pass(atlas, (int) slot.numbers[passed]);
            passed++;
        }
        return passed;
    }

    private static boolean hasSlot(int slot) {
        return slot >= 0 && slot < SLOTS;
    }

    // 0 if the slot's row can be answered for; else what the call answers.
    private int checkRow(int slot, boolean mayBeNone) {
        if (noShire() || !hasSlot(slot)) {
            return NO_SUCH;
        }
        Slot s = slots[slot];
        if (!s.isFilled()) {
            return NOTHING;
        }
        for (int i = 0; i < s.size; i++) {
            boolean none = mayBeNone && s.numbers[i] == NONE;
            if (!none && !hasGate(s.numbers[i])) {
                return NO_SUCH;
            }
        }
        return 0;
    }

    // Bands that do not tell, and rewards.

    private long silentOf(int set) {
        long silent = 1;
        for (int f = 0; f < shire.farmerCount; f++) {
            if ((set >> f & 1) == 1) {
                silent *= 100 - shire.farmers[f].odds;
            }
        }
        return silent;
    }

    private long hundredsOf(int set) {
        long all = 1;
        for (int f = 0; f < shire.farmerCount; f++) {
            if ((set >> f & 1) == 1) {
                all *= 100;
            }
        }
        return all;
    }

    public long band(int set, int what) {
        if (noShire() || !within(set, 0, shire.farmerBits()) || !within(what, 0, 1)) {
            return NO_SUCH;
        }
        long above = silentOf(set);
        long below = hundredsOf(set);
        long common = commonDivisor(above, below);
        if (common <= 0) {
            return NO_SUCH;
        }
        return what == 0 ? above / common : below / common;
    }

    // The rounds are more than enough: each second one halves a number below 2^40.
    private static long commonDivisor(long a, long b) {
        long x = b;
        long y = a;
        for (int i = 0; i < 128 && y != 0; i++) {
            long rest = x % y;
            x = y;
            y = rest;
        }
        return x;
    }

    private boolean isSilent(int set, int n) {
        return silentOf(set) * 100 >= n * hundredsOf(set);
    }

    private int largestSilent(int n) {
        int best = 0;
        for (int set = 1; set <= shire.farmerBits(); set++) {
            if (Integer.bitCount(set) > Integer.bitCount(best) && isSilent(set, n)) {
                best = set;
            }
        }
        return best;
    }

    public int most(int n) {
        if (noShire() || !within(n, 0, 100)) {
            return NO_SUCH;
        }
        return Integer.bitCount(largestSilent(n));
    }

    public int bands(int n) {
        if (noShire() || !within(n, 0, 100)) {
            return NO_SUCH;
        }
        return largestSilent(n);
    }

    public int inform(int reward, int n) {
        if (noShire() || !within(reward, 0, MAX_REWARD) || !within(n, 0, 99)) {
            return NO_SUCH;
        }
        atlas.weigh(state.standing, NONE);
        int bits = 0;
        for (int f = 0; f < shire.farmerCount; f++) {
            bits |= bit(f, paidIn(f, n) < reward);
        }
        return bits;
    }

    private int paidIn(int farmer, int days) {
        return Math.max(0, atlas.fare(farmer)) * days;
    }

    public int dear(int n) {
        if (noShire() || !within(n, 0, 99)) {
            return NO_SUCH;
        }
        atlas.weigh(state.standing, NONE);
        int least = MAX_REWARD;
        for (int f = 0; f < shire.farmerCount; f++) {
            least = Math.min(least, paidIn(f, n));
        }
        return least < MAX_REWARD ? least + 1 : NONE;
    }

    // Who it was.

    private int neighbours(int gate) {
        Road r = shire.roads[gate];
        return barnBits(r.from) | barnBits(r.to);
    }

    private int suspects(Slot slot) {
        int bits = shire.farmerBits();
        for (int i = 0; i < slot.size; i++) {
            bits &= neighbours((int) slot.numbers[i]);
        }
        return bits;
    }

    private int leftAtWorst(int suspects, int gate) {
        int there = Integer.bitCount(suspects & neighbours(gate));
        return Math.max(there, Integer.bitCount(suspects) - there);
    }

    private int bestWatch(int suspects) {
        int best = NONE;
        int fewest = Integer.bitCount(suspects);
        for (int g = 0; g < shire.roadCount; g++) {
            if (hasGate(g) && leftAtWorst(suspects, g) < fewest) {
                fewest = leftAtWorst(suspects, g);
                best = g;
            }
        }
        return best;
    }

    public int who(int slot) {
        int wrong = checkRow(slot, false);
        return wrong != 0 ? wrong : suspects(slots[slot]);
    }

    public int watch(int slot) {
        int wrong = checkRow(slot, false);
        return wrong != 0 ? wrong : bestWatch(suspects(slots[slot]));
    }

    public int leaves(int slot) {
        int wrong = checkRow(slot, false);
        if (wrong != 0) {
            return wrong;
        }
        int suspects = suspects(slots[slot]);
        int gate = bestWatch(suspects);
        return gate == NONE ? Integer.bitCount(suspects) : leftAtWorst(suspects, gate);
    }

    // Nights drawn.

    private boolean noDraws(int seed, int n) {
        return noShire() || !within(seed, 0, 2000000000) || !within(n, 0, 30);
    }

    private int drawNights(long seed, int n) {
        trial.copyOf(state);
        long x = seed;
        int broken = 0;
        for (int i = 0; i < n && !trial.gaveUp; i++) {
            x = (1103515245L * x + 12345L) % 2147483648L;
            int drawnRoad = (int) (x / 65536 % (shire.roadCount + 1));
            boolean breaks = trial.mayBreak(atlas, drawnRoad);
            trial.pass(atlas, breaks ? drawnRoad : NONE);
            broken += breaks ? 1 : 0;
        }
        return broken;
    }

    public int drawn(int seed, int n, int what) {
        if (noDraws(seed, n) || !within(what, 0, 2)) {
            return NO_SUCH;
        }
        int broken = drawNights(seed, n);
        if (what == 2) {
            return broken;
        }
        if (what == 1) {
            return trial.gaveUp ? 1 : 0;
        }
        return trial.purse;
    }

    public int luck(int seed, int m, int n) {
        if (noDraws(seed, n) || !within(m, 1, 20)) {
            return NO_SUCH;
        }
        int fallen = 0;
        for (int i = 0; i < m; i++) {
            drawNights((long) seed + i, n);
            fallen += trial.gaveUp ? 1 : 0;
        }
        return fallen;
    }

    // Images.

    public int image(int k) {
        if (!within(k, 0, IMAGES - 1)) {
            return NO_SUCH;
        }
        images[k].keep(shire, acts, actCount);
        return 0;
    }

    public int back(int k) {
        if (!within(k, 0, IMAGES - 1)) {
            return NO_SUCH;
        }
        if (!images[k].kept) {
            return NOTHING;
        }
        shire.copyOf(images[k].shire);
        actCount = images[k].actCount;
        System.arraycopy(images[k].acts, 0, acts, 0, MAX_ACTS);
        atlas.survey();
        retell();
        return 0;
    }

    // Slots.

    public int row(int slot, int width, int n) {
        if (!hasSlot(slot) || !within(width, 0, 3) || n > MAX_ROW) {
            return NO_SUCH;
        }
        if (n < 0) {
            return BELOW;
        }
        slots[slot].lay(width, n);
        return 0;
    }

    public int write(int slot, int i, long v) {
        if (!hasSlot(slot)) {
            return NO_SUCH;
        }
        Slot s = slots[slot];
        if (!s.isFilled()) {
            return NOTHING;
        }
        if (i < 0 || i >= s.size) {
            return BEYOND;
        }
        s.numbers[i] = s.cut(v);
        return 0;
    }

    public int paste(int slot, int i, int to, int k, int n) {
        if (!hasSlot(slot) || !hasSlot(to)) {
            return NO_SUCH;
        }
        Slot source = slots[slot];
        Slot target = slots[to];
        if (!source.isFilled() || !target.isFilled()) {
            return NOTHING;
        }
        if (source.width != target.width) {
            return UNLIKE;
        }
        if (!source.reaches(i, n) || !target.reaches(k, n)) {
            return BEYOND;
        }
        System.arraycopy(source.numbers, i, target.numbers, k, n);
        return 0;
    }

    /** A road; its toll is 0 if it has no gate. */
    private static final class Road {
        int from;
        int to;
        int length;
        int toll;

        void copyOf(Road other) {
            from = other.from;
            to = other.to;
            length = other.length;
            toll = other.toll;
        }

        int lesserEnd() {
            return Math.min(from, to);
        }

        /** Where the road leads from a place; NONE if it does not touch it. */
        int beyond(int place) {
            if (place == from) {
                return to;
            }
            return place == to ? from : NONE;
        }
    }

    private static final class Farmer {
        int home;
        int goal;
        int often;
        int courage;
        int odds;

        void copyOf(Farmer other) {
            home = other.home;
            goal = other.goal;
            often = other.often;
            courage = other.courage;
            odds = other.odds;
        }
    }

    /** A shire as its text tells it; without lines there is none. */
    private static final class Shire {
        int lines;
        int places;
        int has;
        int owes;
        int builds;
        int walk;
        int post;
        int pace;
        int roadCount;
        int farmerCount;
        final Road[] roads = new Road[MAX_ROADS];
        final Farmer[] farmers = new Farmer[MAX_FARMERS];

        Shire() {
            for (int r = 0; r < MAX_ROADS; r++) {
                roads[r] = new Road();
            }
            for (int f = 0; f < MAX_FARMERS; f++) {
                farmers[f] = new Farmer();
            }
        }

        void clear() {
            lines = 0;
            places = 0;
            has = 0;
            owes = 0;
            builds = 0;
            walk = 0;
            post = 0;
            pace = 0;
            roadCount = 0;
            farmerCount = 0;
        }

        void copyOf(Shire other) {
            lines = other.lines;
            places = other.places;
            has = other.has;
            owes = other.owes;
            builds = other.builds;
            walk = other.walk;
            post = other.post;
            pace = other.pace;
            roadCount = other.roadCount;
            farmerCount = other.farmerCount;
            for (int r = 0; r < roadCount; r++) {
                roads[r].copyOf(other.roads[r]);
            }
            for (int f = 0; f < farmerCount; f++) {
                farmers[f].copyOf(other.farmers[f]);
            }
        }

        int gateBits() {
            int bits = 0;
            for (int r = 0; r < roadCount; r++) {
                bits |= bit(r, roads[r].toll > 0);
            }
            return bits;
        }

        int farmerBits() {
            return (1 << farmerCount) - 1;
        }
    }

    /** A shire and its acts (the gate of each night, or NONE), as they once were. */
    private static final class Image {
        final Shire shire = new Shire();
        final int[] acts = new int[MAX_ACTS];
        int actCount;
        boolean kept;

        void keep(Shire s, int[] gates, int count) {
            shire.copyOf(s);
            actCount = count;
            System.arraycopy(gates, 0, acts, 0, Math.min(MAX_ACTS, gates.length));
            kept = true;
        }
    }

    /** Bytes that are read as a shire, up to the first fault. */
    private static final class Tape {
        private static final int END = 0;
        private static final int WORD = 1;
        private static final int NUMBER = 2;
        private static final int SIGN = 3;
        private static final int STRAY = 4;
        private static final int MISPLACED = 1;
        private static final int OUT_OF_BOUNDS = 2;
        private static final int TOO_MANY = 3;
        // Above every bound, so that a number with many digits can't wrap around into one.
        private static final int HUGE = 100000;

        int length;
        int fault;
        int faultPlace = NONE;
        private final byte[] bytes = new byte[MAX_TAPE];
        private int next;
        private int kind;
        private int start;
        private int value;

        void put(int number) {
            for (int shift = 24; shift >= 0 && length < MAX_TAPE; shift -= 8) {
                bytes[length] = (byte) (number >> shift);
                length++;
            }
        }

        void read(Shire s) {
            next = 0;
            fault = 0;
            faultPlace = NONE;
            s.clear();
            advance();
            for (int i = 0; i <= MAX_TAPE && fault == 0 && kind != END; i++) {
                readLine(s);
                takeSign();
                s.lines++;
            }
        }

        private void readLine(Shire s) {
            if (s.lines == 0) {
                readHead(s);
            } else if (isWord("road")) {
                readRoad(s);
            } else if (isWord("farmer")) {
                readFarmer(s);
            } else if (isWord("dragoons")) {
                takeWord("dragoons");
                s.post = takePlace(s, "at", NONE);
                s.pace = takeNumber("pace", 0, 60);
            } else {
                blame(MISPLACED);
            }
        }

        private void readHead(Shire s) {
            takeWord("shire");
            s.places = takeNumber("places", 2, MAX_PLACES);
            s.has = takeNumber("has", 0, 9999);
            s.owes = takeNumber("owes", 0, 999);
            s.builds = takeNumber("builds", 1, 999);
            s.walk = takeNumber("walk", 0, 60);
        }

        private void readRoad(Shire s) {
            if (s.roadCount >= MAX_ROADS) {
                blame(TOO_MANY);
                return;
            }
            Road r = s.roads[s.roadCount];
            r.from = takePlace(s, "road", NONE);
            r.to = takePlace(s, "to", r.from);
            r.length = takeNumber("miles", 1, 20);
            r.toll = isWord("gate") ? takeNumber("gate", 1, MAX_TOLL) : 0;
            s.roadCount++;
        }

        private void readFarmer(Shire s) {
            if (s.farmerCount >= MAX_FARMERS) {
                blame(TOO_MANY);
                return;
            }
            Farmer f = s.farmers[s.farmerCount];
            takeWord("farmer");
            f.home = takePlace(s, "at", NONE);
            f.goal = takePlace(s, "to", f.home);
            f.often = takeNumber("times", 0, 9);
            f.courage = takeNumber("courage", 0, 999);
            f.odds = takeNumber("odds", 0, 100);
            s.farmerCount++;
        }

        private int takePlace(Shire s, String word, int unlike) {
            takeWord(word);
            if (fault == 0 && kind == NUMBER && value == unlike) {
                blame(OUT_OF_BOUNDS);
            }
            return takeBetween(0, s.places - 1);
        }

        private int takeNumber(String word, int least, int most) {
            takeWord(word);
            return takeBetween(least, most);
        }

        // Behind a fault nothing is taken any more: the first fault is the one that is told.
        private int takeBetween(int least, int most) {
            if (fault != 0) {
                return 0;
            }
            if (kind != NUMBER) {
                blame(MISPLACED);
                return 0;
            }
            if (value < least || value > most) {
                blame(OUT_OF_BOUNDS);
                return 0;
            }
            int taken = value;
            advance();
            return taken;
        }

        private void takeWord(String word) {
            if (isWord(word)) {
                advance();
            } else {
                blame(MISPLACED);
            }
        }

        private void takeSign() {
            if (fault == 0 && kind == SIGN) {
                advance();
            } else {
                blame(MISPLACED);
            }
        }

        private void blame(int which) {
            if (fault == 0) {
                fault = which;
                faultPlace = start;
            }
        }

        private boolean isWord(String word) {
            if (fault != 0 || kind != WORD || next - start != word.length()) {
                return false;
            }
            for (int i = 0; i < word.length(); i++) {
                if (byteAt(start + i) != word.charAt(i)) {
                    return false;
                }
            }
            return true;
        }

        private int byteAt(int i) {
            return i >= 0 && i < length ? bytes[i] & 255 : NONE;
        }

        private static boolean isLetter(int b) {
            return b >= 'a' && b <= 'z';
        }

        private static boolean isDigit(int b) {
            return b >= '0' && b <= '9';
        }

        private void advance() {
            while (next < length && (byteAt(next) == 32 || byteAt(next) == 10)) {
                next++;
            }
            start = next;
            value = 0;
            int b = byteAt(next);
            if (b == NONE) {
                kind = END;
            } else if (isLetter(b)) {
                kind = WORD;
                while (next < length && isLetter(byteAt(next))) {
                    next++;
                }
            } else if (isDigit(b)) {
                kind = NUMBER;
                while (next < length && isDigit(byteAt(next))) {
                    value = Math.min(HUGE, value * 10 + byteAt(next) - '0');
                    next++;
                }
            } else {
                kind = b == ';' ? SIGN : STRAY;
                next++;
            }
        }
    }

    /** Miles, tolls and ways of a shire, for any set of gates that stand. */
    private static final class Atlas {
        static final int FAR = 1 << 28;
        // Tolls weigh more than all the miles of a way (at most 100) together.
        private static final int TOLL = 1024;

        final Shire shire = new Shire();
        private final int[] milesBetween = new int[MAX_PLACES * MAX_PLACES];
        private final int[] cost = new int[MAX_PLACES * MAX_PLACES];
        private final int[] known = new int[1 << MAX_ROADS];
        final int[] trail = new int[MAX_PLACES];
        private int weighed = NONE;

        /** To be called when the shire is another one. */
        void survey() {
            forget();
            clear(milesBetween);
            for (int r = 0; r < shire.roadCount; r++) {
                join(milesBetween, shire.roads[r], shire.roads[r].length);
            }
            close(milesBetween);
        }

        /** To be called when tolls or farmers are others. */
        void forget() {
            weighed = NONE;
            Arrays.fill(known, NONE);
        }

        private static int cell(int place, int other) {
            return place * MAX_PLACES + other;
        }

        private static void clear(int[] table) {
            Arrays.fill(table, FAR);
            for (int p = 0; p < MAX_PLACES; p++) {
                table[cell(p, p)] = 0;
            }
        }

        private static void join(int[] table, Road r, int weight) {
            int least = Math.min(weight, table[cell(r.from, r.to)]);
            table[cell(r.from, r.to)] = least;
            table[cell(r.to, r.from)] = least;
        }

        private void close(int[] table) {
            for (int mid = 0; mid < shire.places; mid++) {
                for (int p = 0; p < shire.places; p++) {
                    int head = table[cell(p, mid)];
                    if (head >= FAR) {
                        continue;
                    }
                    for (int q = 0; q < shire.places; q++) {
                        int sum = head + table[cell(mid, q)];
                        if (sum < table[cell(p, q)]) {
                            table[cell(p, q)] = sum;
                        }
                    }
                }
            }
        }

        int apart(int place, int other) {
            return milesBetween[cell(place, other)];
        }

        boolean isSafe(int gate, int post) {
            Road r = shire.roads[gate];
            return Math.min(apart(post, r.from), apart(post, r.to)) > shire.pace;
        }

        /** Weighs all ways, by gates that stand, without one road (or NONE). */
        void weigh(int standing, int without) {
            int key = standing * 16 + without + 1;
            if (key == weighed) {
                return;
            }
            weighed = key;
            clear(cost);
            for (int r = 0; r < shire.roadCount; r++) {
                if (r != without) {
                    join(cost, shire.roads[r], weightOf(r, standing));
                }
            }
            close(cost);
        }

        private int weightOf(int road, int standing) {
            Road r = shire.roads[road];
            int toll = (standing >> road & 1) == 1 ? r.toll : 0;
            return toll * TOLL + r.length;
        }

        private static int tollPart(int weight) {
            return weight >= FAR ? NONE : weight / TOLL;
        }

        /** As latest weighed; NONE if there is no way. */
        int leastTolls(int place, int other) {
            return tollPart(cost[cell(place, other)]);
        }

        /** As latest weighed; NONE if he has no way. */
        int fare(int farmer) {
            Farmer f = shire.farmers[farmer];
            int tolls = leastTolls(f.home, f.goal);
            return tolls == NONE ? NONE : tolls * f.often;
        }

        /** As latest weighed; NONE if he has no way. */
        int tripMiles(int farmer) {
            Farmer f = shire.farmers[farmer];
            int weight = cost[cell(f.home, f.goal)];
            return weight >= FAR ? NONE : weight % TOLL;
        }

        /** What all pay by gates that stand. */
        int takings(int standing) {
            if (known[standing] == NONE) {
                weigh(standing, NONE);
                int sum = 0;
                for (int f = 0; f < shire.farmerCount; f++) {
                    sum += Math.max(0, fare(f));
                }
                known[standing] = sum;
            }
            return known[standing];
        }

        // All is weighed without the gate's road: a way goes by it once, from one end or the other.
        private int fareAt(int farmer, int gate, int toll) {
            Farmer f = shire.farmers[farmer];
            Road r = shire.roads[gate];
            int over = toll * TOLL + r.length;
            int there = cost[cell(f.home, r.from)] + over + cost[cell(r.to, f.goal)];
            int thither = cost[cell(f.home, r.to)] + over + cost[cell(r.from, f.goal)];
            int least = Math.min(cost[cell(f.home, f.goal)], Math.min(there, thither));
            return Math.max(0, tollPart(least)) * f.often;
        }

        /** What all pay by another toll of a gate, when weighed without it. */
        int takingsAt(int gate, int toll) {
            int sum = 0;
            for (int f = 0; f < shire.farmerCount; f++) {
                sum += fareAt(f, gate, toll);
            }
            return sum;
        }

        /** Whether one is angry by another toll of a gate, when weighed without it. */
        boolean angersAt(int gate, int toll) {
            for (int f = 0; f < shire.farmerCount; f++) {
                if (fareAt(f, gate, toll) > shire.farmers[f].courage) {
                    return true;
                }
            }
            return false;
        }

        /** Puts a farmer's way into the trail: how many roads it has, 0 if there is none. */
        int trace(int farmer, int standing) {
            weigh(standing, NONE);
            Farmer f = shire.farmers[farmer];
            int here = f.home;
            int steps = 0;
            while (steps < MAX_PLACES && here != f.goal) {
                int road = nextRoad(here, f.goal, standing);
                if (road == NONE) {
                    return 0;
                }
                trail[steps] = road;
                steps++;
                here = shire.roads[road].beyond(here);
            }
            return steps;
        }

        private int nextRoad(int here, int goal, int standing) {
            int left = cost[cell(here, goal)];
            for (int r = 0; r < shire.roadCount && left < FAR; r++) {
                int there = shire.roads[r].beyond(here);
                if (there != NONE && weightOf(r, standing) + cost[cell(there, goal)] == left) {
                    return r;
                }
            }
            return NONE;
        }
    }

    /** How things stand behind some nights. */
    private static final class State {
        int nights;
        int purse;
        boolean gaveUp;
        int post;
        int standing;
        int rebuilt;
        final int[] fallen = new int[MAX_ROADS];

        void begin(Shire s) {
            nights = 0;
            purse = s.has;
            gaveUp = false;
            post = s.post;
            standing = s.gateBits();
            rebuilt = 0;
            Arrays.fill(fallen, 0);
        }

        void copyOf(State other) {
            nights = other.nights;
            purse = other.purse;
            gaveUp = other.gaveUp;
            post = other.post;
            standing = other.standing;
            rebuilt = other.rebuilt;
            System.arraycopy(other.fallen, 0, fallen, 0, MAX_ROADS);
        }

        boolean isUp(int gate) {
            return gate >= 0 && gate < MAX_ROADS && (standing >> gate & 1) == 1;
        }

        boolean mayBreak(Atlas atlas, int gate) {
            return !gaveUp && isUp(gate) && atlas.isSafe(gate, post);
        }

        boolean mayPass(Atlas atlas, int gate) {
            return gate == NONE ? !gaveUp : mayBreak(atlas, gate);
        }

        /** A night in which a gate (or NONE) is broken, and its day: what all pay. */
        int pass(Atlas atlas, int gate) {
            Shire s = atlas.shire;
            if (isUp(gate)) {
                standing &= ~(1 << gate);
                post = s.roads[gate].lesserEnd();
            }
            nights++;
            int broken = s.gateBits() & ~standing;
            for (int g = 0; g < s.roadCount; g++) {
                fallen[g] += broken >> g & 1;
            }
            int paid = atlas.takings(standing);
            purse += paid;
            if (purse < s.owes) {
                purse = 0;
                gaveUp = true;
            } else {
                purse -= s.owes;
                rebuild(s.builds);
            }
            return paid;
        }

        private void rebuild(int price) {
            if (purse < price) {
                return;
            }
            int longest = 0;
            for (int g = 1; g < MAX_ROADS; g++) {
                if (fallen[g] > fallen[longest]) {
                    longest = g;
                }
            }
            if (fallen[longest] >= 2) {
                fallen[longest] = 0;
                standing |= 1 << longest;
                purse -= price;
                rebuilt++;
            }
        }

        /** False only if the trust can't give up in so many nights, even if nobody paid. */
        boolean mayFall(Shire s, int soon) {
            return s.owes > 0 && purse < soon * s.owes + (soon - 1) * s.builds;
        }
    }

    /** Looks for the fewest nights by which the trust gives up; what it found holds till forgotten. */
    private static final class Planner {
        final int[] gates = new int[MAX_PLAN];
        private final State[] states = new State[MAX_PLAN + 1];
        private int nights;
        private boolean found;

        Planner() {
            for (int i = 0; i <= MAX_PLAN; i++) {
                states[i] = new State();
            }
        }

        void forget() {
            found = false;
        }

        int seek(Atlas atlas, State from) {
            if (found) {
                return nights;
            }
            found = true;
            nights = from.gaveUp ? 0 : NONE;
            states[0].copyOf(from);
            for (int goal = 1; goal <= MAX_PLAN && nights == NONE; goal++) {
                if (falls(atlas, 0, goal)) {
                    nights = goal;
                }
            }
            return nights;
        }

        // Goes no deeper than the goal, at most four; NONE is tried first, then gates as they are numbered.
        private boolean falls(Atlas atlas, int depth, int goal) {
            if (depth < 0 || depth >= goal || depth >= MAX_PLAN) {
                return false;
            }
            State here = states[depth];
            State next = states[depth + 1];
            if (!here.mayFall(atlas.shire, goal - depth)) {
                return false;
            }
            for (int g = NONE; g < atlas.shire.roadCount; g++) {
                if (!here.mayPass(atlas, g)) {
                    continue;
                }
                gates[depth] = g;
                next.copyOf(here);
                next.pass(atlas, g);
                if (next.gaveUp || falls(atlas, depth + 1, goal)) {
                    return true;
                }
            }
            return false;
        }
    }

    /** Looks for the round of least tolls, as latest weighed. */
    private static final class Tour {
        final int[] best = new int[MAX_PLACES];
        int stops;
        private final int[] order = new int[MAX_PLACES];
        private int home;
        private int least;

        /** The tolls of the round; NONE if there is none. */
        int seek(Atlas atlas, int from, int set) {
            home = from;
            int left = set & ~(1 << from);
            stops = Integer.bitCount(left);
            least = Atlas.FAR;
            visit(atlas, from, left, 0, 0);
            return least >= Atlas.FAR ? NONE : least;
        }

        // Each level takes one place out of those left, so it goes no deeper than there are places.
        private void visit(Atlas atlas, int here, int left, int depth, int paid) {
            if (left == 0 || depth >= MAX_PLACES) {
                finish(atlas, here, paid);
                return;
            }
            for (int p = 0; p < MAX_PLACES; p++) {
                if ((left >> p & 1) == 0) {
                    continue;
                }
                int tolls = atlas.leastTolls(here, p);
                if (tolls != NONE && paid + tolls < least) {
                    order[depth] = p;
                    visit(atlas, p, left & ~(1 << p), depth + 1, paid + tolls);
                }
            }
        }

        private void finish(Atlas atlas, int here, int paid) {
            int tolls = atlas.leastTolls(here, home);
            if (tolls != NONE && paid + tolls < least) {
                least = paid + tolls;
                System.arraycopy(order, 0, best, 0, MAX_PLACES);
            }
        }
    }

    /** A row of numbers, all of one width, or nothing. */
    private static final class Slot {
        final long[] numbers = new long[MAX_ROW];
        int width = NONE;
        int size;

        boolean isFilled() {
            return width != NONE;
        }

        void lay(int newWidth, int newSize) {
            width = newWidth;
            size = newSize;
            Arrays.fill(numbers, 0);
        }

        long cut(long v) {
            switch (width) {
                case 0: return (byte) v;
                case 1: return (short) v;
                case 2: return (int) v;
                default: return v;
            }
        }

        boolean reaches(int from, int n) {
            return from >= 0 && n >= 0 && (long) from + n <= size;
        }
    }
}
