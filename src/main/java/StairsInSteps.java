import java.util.Arrays;
import java.util.NoSuchElementException;

/**
 * Steps up to a shrine: what treading and leaping costs, who climbs them how, who is paid and who owns them.
 * A PLACE, inside this class, is 0 for the ground and one more than its number for a STEP.
 */
public final class StairsInSteps {
    public static final int NONE = -1;

    private static final int MOST_STEPS = 24;
    private static final int PLACES = MOST_STEPS + 1;
    private static final int LONGEST_LEAP = 3;
    private static final int MOST_RISE = 30;
    private static final int WHOLE_STATE = 9;
    private static final int MOST_ASKED = 20;
    private static final int FAMILIES = 8;
    private static final int ALL_FAMILIES = 255;
    private static final int WHOLE = 720;
    private static final int ALL_SHARES = MOST_STEPS * FAMILIES;
    private static final int MOST_PILGRIMS = 6;
    private static final int MOST_KNEES = 120;
    private static final int MOST_SPENT = 999;
    private static final int MOST_EFFORT = 999;
    private static final int MOST_LOAD = 50;
    private static final int MOST_REST = 30;
    private static final int MOST_FOR_RAIL = 9999;
    private static final int MOST_ROUNDS = 3;
    private static final int MOST_TOLD = MOST_STEPS + 2;
    private static final int FAR = 1 << 20;
    private static final int TREADING = 0;
    private static final int LEAPING = 1;

    private static final int NO_WAY = -2;
    private static final int VOWED = -3;
    private static final int TIRED = -4;
    private static final int POOR = -5;
    private static final int BELOW_NOTHING = -2;
    private static final int MISSING = -3;
    private static final int UNFIT = -100;

    // A climb's key has its COST, EFFORT, MOVES and STEPS in the order in which climbs are compared: the lesser key is
    // the better climb. The STEPS are bits, the lowest STEP's the highest one, 0 if it is trodden. The key of a climb
    // is the sum of the keys of its moves, and so an end that is best for one beginning is best for all.
    private static final int MOVE_BIT = 24;
    private static final int EFFORT_BIT = 29;
    private static final int COST_BIT = 41;
    private static final long NO_MOVES = (1L << MOVE_BIT) - 1;
    private static final long COST_AND_EFFORT = -1L << EFFORT_BIT;
    private static final long NO_CLIMB = 0x7fffffffffffffffL;

    private final Text text = new Text();
    private final StairsReader reader = new StairsReader();
    private final Stairs flight = new Stairs();
    private final Pilgrim[] pilgrims = new Pilgrim[MOST_PILGRIMS];
    private int toldPilgrims = 0;
    private final int[] purses = new int[FAMILIES];
    private final int[] division = new int[FAMILIES];
    private final int[] remainders = new int[FAMILIES];
    private final Kept[] store = {new Kept(), new Kept()};
    private final ByCost byCost = new ByCost();
    private final Feast revel = new Feast();
    private final int[] sumsNow = new int[3];
    private final int[] sumsThen = new int[3];
    private final int[] paid = new int[MOST_ASKED + 1];
    private final int[] climbers = new int[MOST_ASKED + 1];
    private final long[] told = new long[MOST_TOLD];
    private int toldNumbers = 0;

    public StairsInSteps() {
    }

    // ---- the stairs

    public int sign(int v) {
        return text.append(v) ? text.size : NONE;
    }

    public boolean end(int n) {
        return text.cut(n);
    }

    public int stairs() {
        int answer = reader.read(text);
        text.clear();
        if (answer < 0) {
            return answer;
        }
        flight.build(reader);
        for (int i = 0; i < toldPilgrims; i++) {
            Pilgrim one = find(i);
            if (one != null) {
                one.startAnew();
            }
        }
        Arrays.fill(purses, 0);
        for (int i = 0; i < store.length; i++) {
            store[i].holds = false;
        }
        return answer;
    }

    public int law(int i) {
        int answer = UNFIT;
        if (i == 0) {
            answer = flight.treading.read(text);
        } else if (i == 1) {
            answer = flight.leaping.read(text);
        }
        text.clear();
        return answer;
    }

    public int step(int step, int what) throws NoSuchElementException {
        if (!flight.has(step)) {
            throw new NoSuchElementException("no such step");
        }
        switch (what) {
            case 0:
                return flight.rise[step];
            case 1:
                return flight.state[step];
            case 2:
                return flight.asks[step];
            case 3:
                return flight.widow[step];
            case 4:
                return flight.shares.mainOf(step);
            default:
                throw new NoSuchElementException("nothing such of a step");
        }
    }

    public int set(int step, int what, int v) {
        if (!flight.has(step) || v < 0) {
            return NONE;
        }
        int was = NONE;
        if (what == 0 && v <= MOST_ASKED) {
            was = flight.asks[step];
            flight.asks[step] = v;
        } else if (what == 1 && v <= WHOLE_STATE) {
            was = flight.state[step];
            flight.state[step] = v;
        }
        return was;
    }

    public int sheet(int kind, int n, int f, int step) {
        if (kind < 0 || kind > 3 || n > MOST_STEPS) {
            return NONE;
        }
        boolean missing = kind == 3;
        if (!missing && n < 0) {
            return BELOW_NOTHING;
        }
        int entries = missing ? 0 : n;
        for (int i = 0; i < flight.size; i++) {
            flight.asks[i] = i < entries ? entryOf(kind, f + i * step) : 0;
        }
        return missing ? MISSING : flight.sumOfAsks();
    }

    public boolean feud(int a, int b, boolean is) {
        if (!isFamily(a) || !isFamily(b) || a == b) {
            return false;
        }
        flight.quarrel(a, b, is);
        return true;
    }

    public int wears(int n) {
        if (n < 0 || n > WHOLE_STATE) {
            return NONE;
        }
        int sum = 0;
        for (int i = 0; i < flight.size; i++) {
            flight.state[i] = Math.max(0, flight.state[i] - n);
            sum += flight.state[i];
        }
        return sum;
    }

    // ---- pilgrims

    public int pilgrim(int knees, int purse, int leap, int load) {
        boolean fits = knees >= 1 && knees <= MOST_KNEES && purse >= 0 && purse <= MOST_SPENT
            && leap >= 1 && leap <= LONGEST_LEAP && load >= 0 && load <= MOST_LOAD;
        if (!fits || toldPilgrims >= MOST_PILGRIMS) {
            return NONE;
        }
        pilgrims[toldPilgrims] = new Pilgrim(flight, knees, purse, leap, load);
        toldPilgrims++;
        return toldPilgrims - 1;
    }

    public int vow(int pilgrim, int families) {
        Pilgrim one = find(pilgrim);
        if (one == null || families < 0 || families > ALL_FAMILIES) {
            return NONE;
        }
        int was = one.vow;
        one.vow = families;
        return was;
    }

    public int of(int pilgrim, int what) throws NoSuchElementException {
        Pilgrim one = find(pilgrim);
        if (one == null) {
            throw new NoSuchElementException("no such pilgrim");
        }
        switch (what) {
            case 0:
                return one.at;
            case 1:
                return one.kneesLeft;
            case 2:
                return one.purseLeft;
            case 3:
                return one.leap;
            case 4:
                return one.load;
            case 5:
                return one.vow;
            case 6:
                return one.knees;
            case 7:
                return one.purse;
            default:
                throw new NoSuchElementException("nothing such of a pilgrim");
        }
    }

    public int costs(int pilgrim, int step) {
        Pilgrim one = find(pilgrim);
        if (one == null || !flight.has(step)) {
            return NONE;
        }
        if (!one.comesTo(step)) {
            return NO_WAY;
        }
        tellTwo(flight.effortOfMove(one.at, step, one.load), step - one.at - 1);
        return flight.costOfMove(one.at, step, one.load);
    }

    public int tread(int pilgrim, int step) {
        Pilgrim one = find(pilgrim);
        if (one == null || !flight.has(step)) {
            return NONE;
        }
        if (!one.comesTo(step)) {
            return NO_WAY;
        }
        if (one.vowsAgainst(flight.shares.mainOf(step))) {
            return VOWED;
        }
        int effort = flight.effortOfMove(one.at, step, one.load);
        if (effort > one.kneesLeft) {
            return TIRED;
        }
        int cost = flight.costOfMove(one.at, step, one.load);
        if (cost > one.purseLeft) {
            return POOR;
        }
        payForMove(one, step);
        one.kneesLeft -= effort;
        one.purseLeft -= cost;
        one.at = step;
        return cost;
    }

    public int rests(int pilgrim, int n) {
        Pilgrim one = find(pilgrim);
        if (one == null || n < 1 || n > MOST_REST) {
            return NONE;
        }
        int pay = flight.priceOf(TREADING, one.at, one.at, 0, one.load);
        if (pay > one.purseLeft) {
            return POOR;
        }
        if (flight.has(one.at)) {
            lead(pay, one.at, 1);
        }
        one.purseLeft -= pay;
        one.kneesLeft = Math.min(one.knees, one.kneesLeft + n);
        return pay;
    }

    public int returns(int pilgrim) {
        Pilgrim one = find(pilgrim);
        if (one == null) {
            return NONE;
        }
        int was = one.at;
        one.at = NONE;
        one.kneesLeft = one.knees;
        return was;
    }

    public int earned(int family) {
        if (!isFamily(family)) {
            return NONE;
        }
        tellOne(flight.shares.sumOf(family));
        return purses[family];
    }

    // ---- climbs (from the ground, KNEES and PURSE as told)

    public int climb(int pilgrim) {
        Pilgrim one = find(pilgrim);
        if (one == null || flight.size == 0) {
            return NONE;
        }
        one.routes.lay(one.load, one.vow, NONE);
        long key = one.routes.cheapest();
        if (key == NO_CLIMB) {
            return NO_WAY;
        }
        tellTwo(effortIn(key), movesIn(key));
        for (int i = 0; i < flight.size; i++) {
            if (treads(key, i)) {
                tellMore(i);
            }
        }
        return costIn(key);
    }

    public int knees(int pilgrim) {
        Pilgrim one = find(pilgrim);
        if (one == null || flight.size == 0) {
            return NONE;
        }
        one.routes.lay(one.load, one.vow, NONE);
        long key = byCost.easiest(one.routes);
        if (key == NO_CLIMB) {
            return NO_WAY;
        }
        tellOne(costIn(key));
        return effortIn(key);
    }

    public long ways(int pilgrim, int cost) {
        Pilgrim one = find(pilgrim);
        if (one == null || cost < 0 || cost > MOST_SPENT) {
            return NONE;
        }
        one.routes.lay(one.load, one.vow, NONE);
        long number = byCost.tally(one.routes, cost, NONE);
        tellOne(byCost.easiestWays);
        return number;
    }

    public int trod(int pilgrim, int cost, int step) {
        Pilgrim one = find(pilgrim);
        if (one == null || cost < 0 || cost > MOST_SPENT || !flight.has(step)) {
            return NONE;
        }
        one.routes.lay(one.load, one.vow, NONE);
        long number = byCost.tally(one.routes, cost, NONE);
        if (number == 0) {
            return NO_WAY;
        }
        tellFraction(byCost.tally(one.routes, cost, step), number);
        return 0;
    }

    public int who(int spent, int step) {
        if (spent < 0 || spent > MOST_SPENT || !flight.has(step)) {
            return NONE;
        }
        int bits = 0;
        for (int i = 0; i < toldPilgrims; i++) {
            Pilgrim one = find(i);
            if (one != null) {
                one.routes.lay(one.load, one.vow, NONE);
                bits |= byCost.tally(one.routes, spent, step) > 0 ? 1 << i : 0;
            }
        }
        return bits;
    }

    public int next(int pilgrim, int cost) {
        Pilgrim one = find(pilgrim);
        if (one == null || cost < -1 || cost >= MOST_SPENT || flight.size == 0) {
            return NONE;
        }
        one.routes.lay(one.load, one.vow, NONE);
        long key = byCost.firstAbove(one.routes, cost);
        if (key == NO_CLIMB) {
            return NO_WAY;
        }
        tellOne(effortIn(key));
        return costIn(key);
    }

    public int bears(int pilgrim) {
        Pilgrim one = find(pilgrim);
        if (one == null || flight.size == 0) {
            return NONE;
        }
        for (int load = MOST_LOAD; load >= 0; load--) {
            one.routes.lay(load, one.vow, NONE);
            long key = one.routes.cheapest();
            if (key != NO_CLIMB) {
                tellOne(costIn(key));
                return load;
            }
        }
        return NO_WAY;
    }

    public int breaks(int pilgrim) {
        Pilgrim one = find(pilgrim);
        if (one == null || flight.size == 0) {
            return NONE;
        }
        int found = NO_WAY;
        int least = 0;
        for (int family = 0; family < FAMILIES; family++) {
            if (!one.vowsAgainst(family)) {
                continue;
            }
            one.routes.lay(one.load, one.vow & ~(1 << family), NONE);
            long key = one.routes.cheapest();
            if (key != NO_CLIMB && (found == NO_WAY || costIn(key) < least)) {
                found = family;
                least = costIn(key);
            }
        }
        if (found != NO_WAY) {
            one.routes.lay(one.load, one.vow, NONE);
            long key = one.routes.cheapest();
            tellTwo(least, key == NO_CLIMB ? NONE : costIn(key));
        }
        return found;
    }

    // ---- broken steps, what they ask

    public int all() {
        sumUp(NONE, sumsNow);
        tellTwo(sumsNow[0], sumsNow[2]);
        return sumsNow[1];
    }

    public int whole(int step) {
        if (!flight.has(step)) {
            return NONE;
        }
        sumUp(NONE, sumsNow);
        int was = flight.state[step];
        flight.state[step] = WHOLE_STATE;
        sumUp(NONE, sumsThen);
        flight.state[step] = was;
        return tellDifferences();
    }

    public int mends(int step) {
        if (!flight.has(step)) {
            return NONE;
        }
        int coppers = (WHOLE_STATE - flight.state[step]) * flight.rise[step];
        lead(coppers, step, -1);
        flight.state[step] = WHOLE_STATE;
        return coppers;
    }

    public int shut(int step) {
        if (!flight.has(step)) {
            return NONE;
        }
        sumUp(NONE, sumsNow);
        sumUp(step, sumsThen);
        return tellDifferences();
    }

    public int toll(int step) {
        if (!flight.has(step)) {
            return NONE;
        }
        weighAlone(step);
        int answer = 0;
        for (int v = 1; v <= MOST_ASKED; v++) {
            answer = climbers[v] == climbers[0] ? v : answer;
        }
        tellOne(climbers[0]);
        return answer;
    }

    public int peace() {
        sumUp(NONE, sumsNow);
        int found = NO_WAY;
        int least = 0;
        int many = 0;
        for (int a = 0; a < FAMILIES; a++) {
            for (int b = a + 1; b < FAMILIES; b++) {
                if (!flight.inFeud(a, b)) {
                    continue;
                }
                System.arraycopy(sumsNow, 0, sumsThen, 0, sumsNow.length);
                if (flight.mindsFeud(a, b)) {
                    flight.quarrel(a, b, false);
                    sumUp(NONE, sumsThen);
                    flight.quarrel(a, b, true);
                }
                if (sumsThen[0] >= sumsNow[0] && (found == NO_WAY || sumsThen[1] < least)) {
                    found = a * 10 + b;
                    least = sumsThen[1];
                    many = sumsThen[0];
                }
            }
        }
        if (found != NO_WAY) {
            tellTwo(least, many);
        }
        return found;
    }

    public int lamps(int d) {
        if (d < 0 || d >= MOST_STEPS || flight.size == 0) {
            return NONE;
        }
        tellNothing();
        for (int dark = 0; dark < flight.size; dark += 2 * d + 1) {
            tellMore(Math.min(dark + d, flight.size - 1));
        }
        return toldNumbers;
    }

    public int would(int step, int v) {
        if (!flight.has(step) || !isAsked(v)) {
            return NONE;
        }
        weighAlone(step);
        return paid[v];
    }

    public int best(int step) {
        if (!flight.has(step)) {
            return NONE;
        }
        weighAlone(step);
        int answer = mostPaid();
        tellOne(paid[answer]);
        return answer;
    }

    public int market(int n) {
        if (n < 1 || n > MOST_ROUNDS || flight.size == 0) {
            return NONE;
        }
        int changed = 0;
        boolean stands = false;
        for (int i = 0; i < n && !stands; i++) {
            stands = !haggle();
            changed += stands ? 0 : 1;
        }
        tellTwo(stands ? 1 : 0, flight.sumOfAsks());
        return changed;
    }

    // ---- parts

    public int parts(int step, int family) {
        return flight.has(step) && isFamily(family) ? flight.shares.shareOf(step, family) : NONE;
    }

    public int sells(int step, int from, int to, int up, int low) {
        if (!flight.has(step) || !isFamily(from) || !isFamily(to) || from == to) {
            return NONE;
        }
        if (up < 1 || low > 9 || up > low) {
            return NONE;
        }
        int moved = flight.shares.shareOf(step, from) * up / low;
        if (moved == 0) {
            return NONE;
        }
        flight.shares.remember();
        flight.shares.move(step, from, to, moved);
        return moved;
    }

    public int dies(int family, int heirs) {
        if (!isFamily(family) || heirs < 1 || heirs > ALL_FAMILIES || (heirs >> family & 1) != 0) {
            return NONE;
        }
        int moved = flight.shares.sumOf(family);
        if (moved > 0) {
            flight.shares.remember();
            for (int i = 0; i < flight.size; i++) {
                flight.shares.inherit(i, family, heirs);
            }
        }
        return moved;
    }

    public int undo() {
        return flight.shares.takeBack() ? flight.shares.sales : NONE;
    }

    public int rail(int n) {
        if (n < 0 || n > MOST_FOR_RAIL || flight.size == 0) {
            return NONE;
        }
        flight.shares.sumInto(division);
        divide(n, WHOLE * flight.size);
        int some = 0;
        tellNothing();
        for (int i = 0; i < FAMILIES; i++) {
            tellMore(division[i]);
            some += division[i] > 0 ? 1 : 0;
        }
        return some;
    }

    public int rules(int what, int step) {
        if (what < 0 || what > 1 || flight.size == 0 || what == 0 && !flight.has(step)) {
            return NONE;
        }
        if (what == 0) {
            flight.shares.shareInto(step, division);
        } else {
            flight.shares.mainsInto(division);
        }
        int bits = fewestOver(what == 0 ? WHOLE : flight.size);
        tellOne(bits);
        return Integer.bitCount(bits);
    }

    // ---- a feast

    public int feast(int room) {
        if (room < 1 || room > MOST_PILGRIMS || flight.size == 0) {
            return NONE;
        }
        hold(room);
        int first = revel.longestWaiting();
        tellTwo(first == NONE ? 0 : revel.waited[first], first);
        tellMore(revel.crowd);
        return revel.minutes;
    }

    public int jam() {
        if (flight.size == 0) {
            return NO_WAY;
        }
        hold(1);
        int worst = 0;
        for (int i = 1; i < flight.size; i++) {
            worst = revel.waitedFor[i] > revel.waitedFor[worst] ? i : worst;
        }
        if (revel.waitedFor[worst] == 0) {
            return NO_WAY;
        }
        tellOne(revel.waitedFor[worst]);
        return worst;
    }

    // ---- kept

    public boolean keep(int i) {
        if (i < 0 || i >= store.length) {
            return false;
        }
        Kept box = store[i];
        box.putStairs(flight);
        System.arraycopy(purses, 0, box.earnings, 0, FAMILIES);
        box.size = toldPilgrims;
        for (int k = 0; k < toldPilgrims; k++) {
            Pilgrim one = find(k);
            if (one != null) {
                box.putPilgrim(k, one);
            }
        }
        box.holds = true;
        return true;
    }

    public boolean again(int i) {
        if (i < 0 || i >= store.length || !store[i].holds) {
            return false;
        }
        Kept box = store[i];
        box.getStairs(flight);
        System.arraycopy(box.earnings, 0, purses, 0, FAMILIES);
        for (int k = 0; k < box.size && k < toldPilgrims; k++) {
            Pilgrim one = find(k);
            if (one != null) {
                box.getPilgrim(k, one);
            }
        }
        return true;
    }

    public int count(int what) {
        switch (what) {
            case 0:
                return flight.size;
            case 1:
                return toldPilgrims;
            case 2:
                return (flight.treading.isTold() ? 1 : 0) + (flight.leaping.isTold() ? 2 : 0);
            case 3:
                return flight.shares.sales;
            case 4:
                return sumOfPurses();
            case 5:
                return flight.sumOfFeuds();
            case 6:
                return toldNumbers;
            case 7:
                return text.size;
            default:
                return NONE;
        }
    }

    public long row(int i) throws NoSuchElementException {
        if (i < 0 || i >= toldNumbers || i >= told.length) {
            throw new NoSuchElementException("no such number");
        }
        return told[i];
    }

    // ---- within: the row

    private void tellNothing() {
        toldNumbers = 0;
    }

    private void tellMore(long number) {
        if (toldNumbers < told.length) {
            told[toldNumbers] = number;
            toldNumbers++;
        }
    }

    private void tellOne(long number) {
        tellNothing();
        tellMore(number);
    }

    private void tellTwo(long first, long second) {
        tellOne(first);
        tellMore(second);
    }

    private void tellFraction(long upper, long lower) {
        long divisor = lower;
        long rest = upper;
        for (int i = 0; i < 100 && rest != 0; i++) {
            long smaller = divisor % rest;
            divisor = rest;
            rest = smaller;
        }
        if (divisor != 0) {
            tellTwo(upper / divisor, lower / divisor);
        }
    }

    private int tellDifferences() {
        tellNothing();
        boolean some = false;
        for (int i = 0; i < sumsNow.length; i++) {
            tellMore(sumsThen[i] - sumsNow[i]);
            some |= sumsThen[i] != sumsNow[i];
        }
        return some ? 1 : 0;
    }

    // ---- within: small questions

    private static boolean isFamily(int family) {
        return family >= 0 && family < FAMILIES;
    }

    private static boolean isAsked(int v) {
        return v >= 0 && v <= MOST_ASKED;
    }

    private static int entryOf(int kind, int v) {
        int entry = kind == 0 ? (byte) v : kind == 1 ? (short) v : v;
        return Math.max(0, Math.min(MOST_ASKED, entry));
    }

    private static int costIn(long key) {
        return (int) (key >>> COST_BIT);
    }

    private static int effortIn(long key) {
        return (int) (key >>> EFFORT_BIT) & 4095;
    }

    private static int movesIn(long key) {
        return (int) (key >>> MOVE_BIT) & 31;
    }

    private static long bitOf(int step) {
        return 1L << (MOST_STEPS - 1 - step);
    }

    private static boolean treads(long key, int step) {
        return (key & bitOf(step)) == 0;
    }

    private Pilgrim find(int i) {
        return i >= 0 && i < toldPilgrims && i < pilgrims.length ? pilgrims[i] : null;
    }

    // ---- within: coin

    private void payForMove(Pilgrim one, int step) {
        int leapt = step - one.at - 1;
        for (int i = one.at + 1; i < step; i++) {
            lead(flight.priceOf(LEAPING, i, one.at, leapt, one.load), i, 1);
        }
        lead(flight.priceOf(TREADING, step, one.at, leapt, one.load), step, 1);
    }

    /** Coppers go to the families of a step (sign 1), or come from them (sign -1). */
    private void lead(int coppers, int step, int direction) {
        flight.shares.shareInto(step, division);
        divide(coppers, WHOLE);
        for (int i = 0; i < FAMILIES; i++) {
            purses[i] += direction * division[i];
        }
    }

    /** In place of the parts of a whole, the division has what each gets of the coppers. */
    private void divide(int coppers, int parts) {
        if (parts < 1) {
            return;
        }
        int left = coppers;
        for (int i = 0; i < FAMILIES; i++) {
            remainders[i] = coppers * division[i] % parts;
            division[i] = coppers * division[i] / parts;
            left -= division[i];
        }
        for (int given = 0; given < left && given < FAMILIES; given++) {
            int most = 0;
            for (int i = 1; i < FAMILIES; i++) {
                most = remainders[i] > remainders[most] ? i : most;
            }
            division[most]++;
            remainders[most] = -1;
        }
    }

    private int sumOfPurses() {
        int sum = 0;
        for (int i = 0; i < FAMILIES; i++) {
            sum += purses[i];
        }
        return sum;
    }

    /** The fewest families (bits) whose numbers in the division are together more than half of all. */
    private int fewestOver(int all) {
        int found = ALL_FAMILIES;
        for (int bits = 1; bits < ALL_FAMILIES; bits++) {
            int sum = 0;
            for (int i = 0; i < FAMILIES; i++) {
                sum += (bits >> i & 1) * division[i];
            }
            if (2 * sum > all && Integer.bitCount(bits) < Integer.bitCount(found)) {
                found = bits;
            }
        }
        return found;
    }

    // ---- within: all pilgrims at once

    /** How many have a climb, the sum of their COSTS, of their EFFORTS, if a step (or NONE) is shut. */
    private void sumUp(int closed, int[] sums) {
        Arrays.fill(sums, 0);
        for (int i = 0; i < toldPilgrims && flight.size > 0; i++) {
            Pilgrim one = find(i);
            if (one == null) {
                continue;
            }
            one.routes.lay(one.load, one.vow, closed);
            long key = one.routes.cheapest();
            if (key != NO_CLIMB) {
                sums[0]++;
                sums[1] += costIn(key);
                sums[2] += effortIn(key);
            }
        }
    }

    /** What a step is paid, and how many climb, for each ASKS of it. */
    private void weighAlone(int step) {
        for (int i = 0; i < toldPilgrims; i++) {
            Pilgrim one = find(i);
            if (one != null) {
                one.routes.lay(one.load, one.vow, NONE);
                one.routes.survey();
                one.routes.raiseTo(step);
            }
        }
        weigh(step);
    }

    private void weigh(int step) {
        Arrays.fill(paid, 0);
        Arrays.fill(climbers, 0);
        for (int i = 0; i < toldPilgrims; i++) {
            Pilgrim one = find(i);
            if (one != null) {
                one.routes.addOffers(step, paid, climbers);
            }
        }
    }

    private int mostPaid() {
        int most = 0;
        for (int v = 1; v <= MOST_ASKED; v++) {
            most = paid[v] > paid[most] ? v : most;
        }
        return most;
    }

    /** One round of the market: whether it changed something. */
    private boolean haggle() {
        boolean changed = false;
        for (int i = 0; i < toldPilgrims; i++) {
            Pilgrim one = find(i);
            if (one != null) {
                one.routes.lay(one.load, one.vow, NONE);
                one.routes.survey();
            }
        }
        for (int step = 0; step < flight.size; step++) {
            climbAllTo(step);
            weigh(step);
            int most = mostPaid();
            int asked = flight.asks[step];
            if (isAsked(asked) && paid[most] > paid[asked]) {
                changed = true;
                flight.asks[step] = most;
                measureAllAt(step);
            }
        }
        return changed;
    }

    private void climbAllTo(int place) {
        for (int i = 0; i < toldPilgrims; i++) {
            Pilgrim one = find(i);
            if (one != null) {
                one.routes.raiseOne(place);
            }
        }
    }

    private void measureAllAt(int step) {
        for (int i = 0; i < toldPilgrims; i++) {
            Pilgrim one = find(i);
            if (one != null) {
                one.routes.measure(step + 1, step + LONGEST_LEAP);
            }
        }
    }

    private void hold(int room) {
        revel.prepare(flight.size);
        for (int i = 0; i < toldPilgrims; i++) {
            Pilgrim one = find(i);
            if (one == null) {
                continue;
            }
            one.routes.lay(one.load, one.vow, NONE);
            long key = one.routes.cheapest();
            if (key != NO_CLIMB) {
                revel.invite(i, key);
            }
        }
        revel.run(room);
    }

    /** THE TEXT. */
    private static final class Text {
        private static final int MOST = 80;

        private final byte[] signs = new byte[MOST];
        private int size = 0;

        boolean append(int v) {
            if (size + 4 > MOST) {
                return false;
            }
            for (int shift = 24; shift >= 0; shift -= 8) {
                signs[size] = (byte) (v >> shift);
                size++;
            }
            return true;
        }

        boolean cut(int n) {
            if (n < 0 || n > size) {
                return false;
            }
            size = n;
            return true;
        }

        void clear() {
            size = 0;
        }

        /** The sign at a place; NONE there where the text has ended. */
        int signAt(int at) {
            return at >= 0 && at < size && at < MOST ? signs[at] & 255 : NONE;
        }

        static boolean isDigit(int sign) {
            return sign >= '0' && sign <= '9';
        }
    }

    /** Reads THE STAIRS into rows of its own, so that wrong ones change nothing. */
    private static final class StairsReader {
        private static final int MOST_SIGNS = 76;

        private final int[] rise = new int[MOST_STEPS];
        private final int[] state = new int[MOST_STEPS];
        private final int[] asks = new int[MOST_STEPS];
        private final int[] widow = new int[MOST_STEPS];
        private final int[] owner = new int[MOST_STEPS];
        private int size = 0;
        private int at = 0;
        private int limit = 0;
        private int fault = NONE;

        int read(Text text) {
            size = 0;
            at = 0;
            fault = NONE;
            limit = Math.min(text.size, MOST_SIGNS);
            boolean more = text.size > 0;
            for (int lines = 0; more && lines < MOST_SIGNS; lines++) {
                more = readLine(text) && readBreak(text);
            }
            if (fault == NONE && text.size > MOST_SIGNS) {
                fault = MOST_SIGNS;
            }
            if (fault != NONE) {
                return -1 - fault;
            }
            return size < 2 ? UNFIT : size;
        }

        /** The sign at hand; NONE where those end that are read. */
        private int look(Text text) {
            return at < limit ? text.signAt(at) : NONE;
        }

        private boolean fail(int where) {
            fault = where;
            return false;
        }

        /** Whether another line has to come. */
        private boolean readBreak(Text text) {
            return at < limit && readMark(text, ';');
        }

        private boolean readMark(Text text, char mark) {
            if (look(text) != mark) {
                return fail(at);
            }
            at++;
            return true;
        }

        /** A number of one or two digits; NONE, and a fault, if it can't be read or is not within the bounds. */
        private int readNumber(Text text, int least, int most) {
            int value = 0;
            int digits = 0;
            for (; digits < 2 && Text.isDigit(look(text)); digits++) {
                value = value * 10 + look(text) - '0';
                at++;
            }
            boolean fits = digits > 0 && value >= least && value <= most;
            if (!fits) {
                fail(digits == 0 ? at : at - 1);
            }
            return fits ? value : NONE;
        }

        private int readFamily(Text text) {
            int family = look(text) - '0';
            if (!isFamily(family)) {
                fail(at);
                return NONE;
            }
            at++;
            return family;
        }

        private boolean readLine(Text text) {
            if (size >= MOST_STEPS) {
                return fail(at);
            }
            int height = readNumber(text, 1, MOST_RISE);
            if (height == NONE || !readMark(text, ',')) {
                return false;
            }
            int wear = readNumber(text, 0, WHOLE_STATE);
            if (wear == NONE || !readMark(text, ',')) {
                return false;
            }
            int asked = readNumber(text, 0, MOST_ASKED);
            if (asked == NONE || !readMark(text, '@')) {
                return false;
            }
            int family = readFamily(text);
            if (family == NONE) {
                return false;
            }
            int alone = look(text) == 'w' ? 1 : 0;
            at += alone;
            int times = readTimes(text);
            for (int i = 0; i < times; i++) {
                put(height, wear, asked, alone, family);
            }
            return times != NONE;
        }

        private int readTimes(Text text) {
            if (look(text) != '*') {
                return 1;
            }
            at++;
            return readNumber(text, 1, MOST_STEPS - size);
        }

        private void put(int height, int wear, int asked, int alone, int family) {
            if (size < MOST_STEPS) {
                rise[size] = height;
                state[size] = wear;
                asks[size] = asked;
                widow[size] = alone;
                owner[size] = family;
                size++;
            }
        }
    }

    /** A LAW: its text, turned into numbers, letters and signs in the order in which they are worked off. */
    private static final class Law {
        private static final int MOST_SIGNS = 40;
        private static final int MOST_DEPTH = 4;
        private static final int MOST_DIGITS = 3;
        private static final int MOST_PRICE = 99;
        private static final int LETTER = 1000;
        private static final int SIGN = 2000;
        private static final int NEGATE = SIGN;
        private static final String LETTERS = "arswxlj";

        private final int[] code = new int[MOST_SIGNS];
        private final int[] draft = new int[MOST_SIGNS];
        private final int[] stack = new int[MOST_SIGNS + 1];
        private int size = 0;
        private int named = 0;
        private int drafted = 0;
        private int at = 0;
        private int limit = 0;
        private int fault = NONE;

        boolean isTold() {
            return size > 0;
        }

        boolean names(int letter) {
            return isTold() && (named >> letter & 1) != 0;
        }

        /** The text becomes the law: 0; -1 - p, if the sign at p can't stand there. */
        int read(Text text) {
            drafted = 0;
            at = 0;
            fault = NONE;
            limit = Math.min(text.size, MOST_SIGNS);
            if (text.size > 0) {
                readExpression(text, 0);
                if (fault == NONE && (at < limit || text.size > MOST_SIGNS)) {
                    fault = at;
                }
            }
            if (fault != NONE) {
                return -1 - fault;
            }
            System.arraycopy(draft, 0, code, 0, MOST_SIGNS);
            size = drafted;
            named = 0;
            for (int i = 0; i < size; i++) {
                named |= code[i] >= LETTER && code[i] < SIGN ? 1 << code[i] - LETTER : 0;
            }
            return 0;
        }

        private int look(Text text) {
            return at < limit ? text.signAt(at) : NONE;
        }

        private boolean isAhead(Text text, char one, char other) {
            int sign = look(text);
            return fault == NONE && (sign == one || sign == other);
        }

        private void emit(int one) {
            if (fault == NONE && drafted < MOST_SIGNS) {
                draft[drafted] = one;
                drafted++;
            }
        }

        private void readExpression(Text text, int depth) {
            readSum(text, depth);
            if (isAhead(text, '<', '>') || isAhead(text, '=', '=')) {
                int sign = look(text);
                at++;
                readSum(text, depth);
                emit(SIGN + sign);
            }
        }

        private void readSum(Text text, int depth) {
            readProduct(text, depth);
            for (int i = 0; i < MOST_SIGNS && isAhead(text, '+', '-'); i++) {
                int sign = look(text);
                at++;
                readProduct(text, depth);
                emit(SIGN + sign);
            }
        }

        private void readProduct(Text text, int depth) {
            readSigned(text, depth);
            for (int i = 0; i < MOST_SIGNS && isAhead(text, '*', '/'); i++) {
                int sign = look(text);
                at++;
                readSigned(text, depth);
                emit(SIGN + sign);
            }
        }

        private void readSigned(Text text, int depth) {
            boolean negative = false;
            for (int i = 0; i < MOST_SIGNS && isAhead(text, '-', '-'); i++) {
                negative = !negative;
                at++;
            }
            readThing(text, depth);
            if (negative) {
                emit(NEGATE);
            }
        }

        private void readThing(Text text, int depth) {
            int sign = look(text);
            int letter = sign == NONE ? NONE : LETTERS.indexOf((char) sign);
            if (fault != NONE) {
                return;
            }
            if (Text.isDigit(sign)) {
                readNumber(text);
            } else if (letter >= 0) {
                at++;
                emit(LETTER + letter);
            } else if (sign == '(' && depth < MOST_DEPTH) {
                at++;
                readExpression(text, depth + 1);
                readClosing(text);
            } else {
                fault = at;
            }
        }

        private void readClosing(Text text) {
            if (isAhead(text, ')', ')')) {
                at++;
            } else if (fault == NONE) {
                fault = at;
            }
        }

        private void readNumber(Text text) {
            int value = 0;
            for (int i = 0; i < MOST_DIGITS && Text.isDigit(look(text)); i++) {
                value = value * 10 + look(text) - '0';
                at++;
            }
            emit(value);
        }

        /** What the law says of these letters' values, put to 0 .. 99. */
        int priceFor(int[] letters) {
            int top = 0;
            for (int i = 0; i < size && i < MOST_SIGNS; i++) {
                int one = code[i];
                if (one < SIGN) {
                    int letter = one - LETTER;
                    stack[top] = letter < 0 ? one : letter < letters.length ? letters[letter] : 0;
                    top++;
                } else if (one == NEGATE && top > 0) {
                    stack[top - 1] = -stack[top - 1];
                } else if (top > 1) {
                    top--;
                    stack[top - 1] = join(one - SIGN, stack[top - 1], stack[top]);
                }
            }
            return top == 0 ? 0 : Math.max(0, Math.min(MOST_PRICE, stack[top - 1]));
        }

        private static int join(int sign, int a, int b) {
            switch (sign) {
                case '<':
                    return a < b ? 1 : 0;
                case '>':
                    return a > b ? 1 : 0;
                case '=':
                    return a == b ? 1 : 0;
                case '+':
                    return a + b;
                case '-':
                    return a - b;
                case '*':
                    return a * b;
                default:
                    return b == 0 ? 0 : a / b;
            }
        }
    }

    /** THE STAIRS as they are, with feuds and laws, which outlast them. */
    private static final class Stairs {
        private static final int ASKS = 0;
        private static final int RISE = 1;
        private static final int STATE = 2;
        private static final int WIDOW = 3;
        private static final int FEUD = 4;
        private static final int LOAD = 5;
        private static final int LEAPT = 6;

        private final int[] rise = new int[MOST_STEPS];
        private final int[] state = new int[MOST_STEPS];
        private final int[] asks = new int[MOST_STEPS];
        private final int[] widow = new int[MOST_STEPS];
        private final Parts shares = new Parts();
        private final int[] feuds = new int[FAMILIES];
        private final Law treading = new Law();
        private final Law leaping = new Law();
        private final int[] letters = new int[LEAPT + 1];
        private int size = 0;

        void build(StairsReader from) {
            size = from.size;
            System.arraycopy(from.rise, 0, rise, 0, MOST_STEPS);
            System.arraycopy(from.state, 0, state, 0, MOST_STEPS);
            System.arraycopy(from.asks, 0, asks, 0, MOST_STEPS);
            System.arraycopy(from.widow, 0, widow, 0, MOST_STEPS);
            shares.deal(from.owner, size);
        }

        boolean has(int step) {
            return step >= 0 && step < size && step < MOST_STEPS;
        }

        int sumOfAsks() {
            int sum = 0;
            for (int i = 0; i < size; i++) {
                sum += asks[i];
            }
            return sum;
        }

        void quarrel(int a, int b, boolean is) {
            if (isFamily(a) && isFamily(b)) {
                feuds[a] = is ? feuds[a] | 1 << b : feuds[a] & ~(1 << b);
                feuds[b] = is ? feuds[b] | 1 << a : feuds[b] & ~(1 << a);
            }
        }

        boolean inFeud(int a, int b) {
            return a >= 0 && a < FAMILIES && (feuds[a] >> b & 1) != 0;
        }

        int sumOfFeuds() {
            int sum = 0;
            for (int i = 0; i < FAMILIES; i++) {
                sum += Integer.bitCount(feuds[i]);
            }
            return sum / 2;
        }

        /** EFFORT of a move from a step, or the ground (NONE), to a higher step. */
        int effortOfMove(int from, int to, int load) {
            int rises = 0;
            for (int i = from + 1; i <= to; i++) {
                rises += has(i) ? rise[i] : 0;
            }
            int worn = has(to) ? WHOLE_STATE - state[to] : 0;
            return rises * (10 + load) / 10 + worn + 5 * (to - from - 1);
        }

        int costOfMove(int from, int to, int load) {
            int leapt = to - from - 1;
            int sum = priceOf(TREADING, to, from, leapt, load);
            for (int i = from + 1; i < to; i++) {
                sum += priceOf(LEAPING, i, from, leapt, load);
            }
            return sum;
        }

        /** What a law says of a step that one comes to, or leaps over, from another or the ground; 0 on the ground. */
        int priceOf(int law, int step, int from, int leapt, int load) {
            Law told = law == TREADING ? treading : leaping;
            if (!has(step)) {
                return 0;
            }
            if (!told.isTold()) {
                return law == TREADING && widow[step] == 0 ? asks[step] : 0;
            }
            putLetters(step, from, leapt, load);
            return told.priceFor(letters);
        }

        /** The same for all that a step may ask. */
        void pricesInto(int[] prices, int law, int step, int from, int leapt, int load) {
            Law told = law == TREADING ? treading : leaping;
            if (!has(step)) {
                return;
            }
            boolean direct = law == TREADING && !told.isTold() && widow[step] == 0;
            putLetters(step, from, leapt, load);
            int same = told.priceFor(letters);
            for (int v = 0; v < prices.length; v++) {
                letters[ASKS] = v;
                prices[v] = direct ? v : told.names(ASKS) ? told.priceFor(letters) : same;
            }
        }

        private void putLetters(int step, int from, int leapt, int load) {
            if (!has(step)) {
                return;
            }
            letters[ASKS] = asks[step];
            letters[RISE] = rise[step];
            letters[STATE] = state[step];
            letters[WIDOW] = widow[step];
            letters[FEUD] = has(from) && inFeud(shares.mainOf(step), shares.mainOf(from)) ? 1 : 0;
            letters[LOAD] = load;
            letters[LEAPT] = leapt;
        }

        /** Whether a price can hang on a feud: a law has to name it, and one move has to meet both families. */
        boolean mindsFeud(int a, int b) {
            boolean named = treading.names(FEUD) || leaping.names(FEUD);
            for (int i = 0; i < size && named; i++) {
                for (int k = i + 1; k < size && k <= i + LONGEST_LEAP; k++) {
                    int lower = shares.mainOf(i);
                    int upper = shares.mainOf(k);
                    if (lower == a && upper == b || lower == b && upper == a) {
                        return true;
                    }
                }
            }
            return false;
        }
    }

    /** Who has what of each step, and how that was ahead of the latest sales. */
    private static final class Parts {
        private static final int MOST_SALES = 8;

        private final int[] owned = new int[ALL_SHARES];
        private final int[] mains = new int[MOST_STEPS];
        private final int[] past = new int[MOST_SALES * ALL_SHARES];
        private int oldest = 0;
        private int sales = 0;

        void deal(int[] owner, int size) {
            Arrays.fill(owned, 0);
            for (int i = 0; i < size && i < owner.length && i < MOST_STEPS; i++) {
                if (isFamily(owner[i])) {
                    owned[i * FAMILIES + owner[i]] = WHOLE;
                }
            }
            sales = 0;
            findMains();
        }

        /** Sales are forgotten with it: what was ahead of them may not be what is ahead of them now. */
        void restore(int[] from) {
            System.arraycopy(from, 0, owned, 0, ALL_SHARES);
            sales = 0;
            findMains();
        }

        private void findMains() {
            for (int i = 0; i < MOST_STEPS; i++) {
                findMain(i);
            }
        }

        private void findMain(int step) {
            int most = 0;
            for (int i = 1; i < FAMILIES; i++) {
                most = owned[step * FAMILIES + i] > owned[step * FAMILIES + most] ? i : most;
            }
            mains[step] = most;
        }

        int mainOf(int step) {
            return step >= 0 && step < MOST_STEPS ? mains[step] : 0;
        }

        int shareOf(int step, int family) {
            return step >= 0 && step < MOST_STEPS && isFamily(family) ? owned[step * FAMILIES + family] : 0;
        }

        int sumOf(int family) {
            int sum = 0;
            for (int i = 0; i < MOST_STEPS; i++) {
                sum += shareOf(i, family);
            }
            return sum;
        }

        void shareInto(int step, int[] into) {
            for (int i = 0; i < FAMILIES && i < into.length; i++) {
                into[i] = shareOf(step, i);
            }
        }

        void sumInto(int[] into) {
            for (int i = 0; i < FAMILIES && i < into.length; i++) {
                into[i] = sumOf(i);
            }
        }

        /** Of how many steps each is MAIN. */
        void mainsInto(int[] into) {
            Arrays.fill(into, 0);
            for (int i = 0; i < MOST_STEPS; i++) {
                int main = mains[i];
                if (main < into.length && shareOf(i, main) > 0) {
                    into[main]++;
                }
            }
        }

        void remember() {
            if (sales == MOST_SALES) {
                oldest = (oldest + 1) % MOST_SALES;
                sales--;
            }
            int slot = (oldest + sales) % MOST_SALES;
            System.arraycopy(owned, 0, past, slot * ALL_SHARES, ALL_SHARES);
            sales++;
        }

        boolean takeBack() {
            if (sales == 0) {
                return false;
            }
            sales--;
            int slot = (oldest + sales) % MOST_SALES;
            System.arraycopy(past, slot * ALL_SHARES, owned, 0, ALL_SHARES);
            findMains();
            return true;
        }

        void move(int step, int from, int to, int number) {
            if (step >= 0 && step < MOST_STEPS && isFamily(from) && isFamily(to)) {
                owned[step * FAMILIES + from] -= number;
                owned[step * FAMILIES + to] += number;
                findMain(step);
            }
        }

        void inherit(int step, int family, int heirs) {
            int number = shareOf(step, family);
            int many = Integer.bitCount(heirs);
            if (many == 0) {
                return;
            }
            int odd = number % many;
            for (int i = 0; i < FAMILIES; i++) {
                if ((heirs >> i & 1) != 0) {
                    move(step, family, i, number / many + (odd > 0 ? 1 : 0));
                    odd--;
                }
            }
        }
    }

    /** A pilgrim as told, and what is left of it. */
    private static final class Pilgrim {
        private final int knees;
        private final int purse;
        private final int leap;
        private final int load;
        private int vow = 0;
        private int at = NONE;
        private int kneesLeft;
        private int purseLeft;
        private final Routes routes;

        Pilgrim(Stairs stairs, int knees, int purse, int leap, int load) {
            this.knees = knees;
            this.purse = purse;
            this.leap = leap;
            this.load = load;
            this.kneesLeft = knees;
            this.purseLeft = purse;
            this.routes = new Routes(stairs, knees, purse, leap);
        }

        void startAnew() {
            at = NONE;
            kneesLeft = knees;
            purseLeft = purse;
        }

        boolean comesTo(int step) {
            return step > at && step - at <= leap;
        }

        boolean vowsAgainst(int family) {
            return (vow >> family & 1) != 0;
        }
    }

    /** One pilgrim's moves on the stairs as they are, and its cheapest ways along them. */
    private static final class Routes {
        private final Stairs stairs;
        private final int knees;
        private final int purse;
        private final int leap;
        private final int[] cost = new int[PLACES * LONGEST_LEAP];
        private final int[] effort = new int[PLACES * LONGEST_LEAP];
        private final boolean[] open = new boolean[PLACES];
        private final int[] leastUp = new int[PLACES];
        private final int[] leastFrom = new int[PLACES];
        private final Rows rising = new Rows();
        private final Rows ending = new Rows();
        private final long[] offered = new long[MOST_ASKED + 1];
        private final int[] offeredPay = new int[MOST_ASKED + 1];
        private final int[] prices = new int[MOST_ASKED + 1];
        private int load = 0;
        private int top = 0;

        Routes(Stairs stairs, int knees, int purse, int leap) {
            this.stairs = stairs;
            this.knees = knees;
            this.purse = purse;
            this.leap = leap;
        }

        /** Finds all moves with this load and vow, a step (or NONE) being shut. */
        void lay(int newLoad, int vow, int closed) {
            load = newLoad;
            top = Math.min(stairs.size, MOST_STEPS);
            open[0] = true;
            for (int place = 1; place <= top; place++) {
                int step = place - 1;
                open[place] = step != closed && (vow >> stairs.shares.mainOf(step) & 1) == 0;
            }
            measure(1, top);
            for (int place = top; place >= 0; place--) {
                leastUp[place] = leastEffortUp(place);
            }
        }

        /** COST and EFFORT of the moves that come to some places. */
        void measure(int first, int last) {
            for (int place = Math.max(first, 1); place <= last && place <= top; place++) {
                for (int far = 1; far <= leap && far <= place && open[place]; far++) {
                    int move = moveTo(place, far);
                    cost[move] = stairs.costOfMove(place - far - 1, place - 1, load);
                    effort[move] = stairs.effortOfMove(place - far - 1, place - 1, load);
                }
            }
        }

        /** A place is at most 24, a move goes 1 to 3 places: all of them have room. */
        private static int moveTo(int place, int far) {
            return place * LONGEST_LEAP + far - 1;
        }

        private long keyOf(int place, int far) {
            int move = moveTo(place, far);
            return ((long) cost[move] << COST_BIT) + ((long) effort[move] << EFFORT_BIT)
                + (1L << MOVE_BIT) - bitOf(place - 1);
        }

        private int leastEffortUp(int place) {
            int least = place == top && open[place] ? 0 : FAR;
            for (int far = 1; far <= leap && place + far <= top; far++) {
                if (open[place] && open[place + far]) {
                    least = Math.min(least, effort[moveTo(place + far, far)] + leastUp[place + far]);
                }
            }
            return least;
        }

        private int leastEffortFrom(int place) {
            int least = place == 0 ? 0 : FAR;
            for (int far = 1; far <= leap && far <= place && open[place]; far++) {
                least = Math.min(least, effort[moveTo(place, far)] + leastFrom[place - far]);
            }
            return least;
        }

        /** A row of a place is to be merged from those it is come to from, without a leap over a step (or NONE) that must be trodden. */
        void feed(Rows rows, int place, long kept, int must) {
            rows.start(place);
            for (int far = 1; far <= leap && far <= place && open[place]; far++) {
                boolean leapsOver = place - far < must + 1 && must + 1 < place;
                if (!leapsOver) {
                    rows.merge(place - far, keyOf(place, far) & kept);
                }
            }
        }

        /** The key of the cheapest climb along the moves laid last, or NO_CLIMB. */
        long cheapest() {
            if (leastUp[0] > knees) {
                return NO_CLIMB;
            }
            rising.begin(0, NO_MOVES);
            raiseTo(top);
            return rising.sizeAt(top) > 0 ? rising.keyAt(top, 0) : NO_CLIMB;
        }

        /** Makes ready for offers: all ends of climbs, and the first of their beginnings. */
        void survey() {
            for (int place = 0; place <= top; place++) {
                leastFrom[place] = leastEffortFrom(place);
            }
            ending.begin(top, NO_MOVES);
            for (int place = top - 1; place > 0; place--) {
                lower(place);
            }
            rising.begin(0, NO_MOVES);
        }

        private void lower(int place) {
            ending.start(place);
            for (int far = 1; far <= leap && place + far <= top && open[place]; far++) {
                if (open[place + far]) {
                    ending.merge(place + far, keyOf(place + far, far));
                }
            }
            ending.keepCheapest(place, knees - leastFrom[place], purse);
        }

        void raiseTo(int last) {
            for (int place = 1; place <= last && place <= top; place++) {
                raiseOne(place);
            }
        }

        void raiseOne(int place) {
            if (place > 0 && place <= top) {
                feed(rising, place, -1L, NONE);
                rising.keepCheapest(place, knees - leastUp[place], purse);
            }
        }

        /**
         * For each ASKS of a step, adds what it is paid and whether there is a climb. Each climb passes the step by just
         * one move, and what it asks counts in that one alone.
         */
        void addOffers(int step, int[] paid, int[] climbers) {
            Arrays.fill(offered, NO_CLIMB);
            for (int to = step + 1; to <= top && to <= step + leap; to++) {
                for (int from = Math.max(0, to - leap); from <= step && open[to]; from++) {
                    offerBy(step, from, to);
                }
            }
            for (int v = 0; v <= MOST_ASKED; v++) {
                if (offered[v] != NO_CLIMB && costIn(offered[v]) <= purse) {
                    paid[v] += offeredPay[v];
                    climbers[v]++;
                }
            }
        }

        private void offerBy(int step, int from, int to) {
            int far = to - from;
            long around = rising.leastJoined(from, ending, to, knees - effort[moveTo(to, far)]);
            if (around == NO_CLIMB || !stairs.has(step)) {
                return;
            }
            int law = to == step + 1 ? TREADING : LEAPING;
            stairs.pricesInto(prices, law, step, from - 1, far - 1, load);
            int asked = stairs.asks[step];
            int asPaidNow = isAsked(asked) ? prices[asked] : 0;
            long bare = around + keyOf(to, far) - ((long) asPaidNow << COST_BIT);
            for (int v = 0; v <= MOST_ASKED; v++) {
                long key = bare + ((long) prices[v] << COST_BIT);
                if (key < offered[v]) {
                    offered[v] = key;
                    offeredPay[v] = prices[v];
                }
            }
        }
    }

    /** Sorted rows of keys, one for each place, behind one another in one array; a new one is merged from up to three. */
    private static final class Rows {
        private static final int AT_FIRST = 64;
        private static final int AT_MOST = 1 << 20;

        private long[] keys = new long[AT_FIRST];
        private final int[] first = new int[PLACES];
        private final int[] size = new int[PLACES];
        private int filled = 0;
        private final int[] head = new int[LONGEST_LEAP];
        private final int[] tail = new int[LONGEST_LEAP];
        private final long[] shift = new long[LONGEST_LEAP];
        private final long[] ahead = new long[LONGEST_LEAP];
        private int merged = 0;
        private int waiting = 0;

        /** All rows are empty, but for one of one key. */
        void begin(int place, long key) {
            Arrays.fill(size, 0);
            filled = 0;
            start(place);
            push(place, key);
        }

        void start(int place) {
            if (place >= 0 && place < PLACES) {
                first[place] = filled;
                size[place] = 0;
            }
            merged = 0;
            waiting = 0;
        }

        void merge(int place, long moved) {
            int many = sizeAt(place);
            if (many > 0 && merged < LONGEST_LEAP) {
                head[merged] = first[place];
                tail[merged] = first[place] + many;
                shift[merged] = moved;
                ahead[merged] = keys[first[place]] + moved;
                merged++;
                waiting += many;
            }
        }

        int sizeAt(int place) {
            return place >= 0 && place < PLACES ? size[place] : 0;
        }

        long keyAt(int place, int i) {
            return i >= 0 && i < sizeAt(place) ? keys[first[place] + i] : NO_CLIMB;
        }

        /** The least key of those still to be merged, or NO_CLIMB. */
        long take() {
            int which = 0;
            for (int i = 1; i < merged; i++) {
                which = ahead[i] < ahead[which] ? i : which;
            }
            if (waiting == 0) {
                return NO_CLIMB;
            }
            long least = ahead[which];
            head[which]++;
            int at = head[which];
            ahead[which] = at < tail[which] && at < keys.length ? keys[at] + shift[which] : NO_CLIMB;
            waiting--;
            return least;
        }

        void push(int place, long key) {
            if (filled == keys.length && filled < AT_MOST) {
                keys = Arrays.copyOf(keys, filled * 2);
            }
            if (filled < keys.length && place >= 0 && place < PLACES) {
                keys[filled] = key;
                filled++;
                size[place]++;
            }
        }

        /**
         * The least key of one of a place here and one of a place of other rows, within an EFFORT. Both rows go from the
         * cheapest to the easiest: the further on in one, the less far one has to go in the other.
         */
        long leastJoined(int place, Rows others, int to, int mostEffort) {
            int last = others.sizeAt(to);
            int at = last;
            long least = NO_CLIMB;
            long cheapest = others.keyAt(to, 0) - NO_MOVES;
            for (int i = 0; i < sizeAt(place) && last > 0; i++) {
                long key = keys[first[place] + i];
                if (key + cheapest >= least) {
                    return least;
                }
                int rest = mostEffort - effortIn(key);
                while (at > 0 && effortIn(others.keyAt(to, at - 1)) <= rest) {
                    at--;
                }
                if (at < last) {
                    least = Math.min(least, key + others.keyAt(to, at) - NO_MOVES);
                }
            }
            return least;
        }

        /** Of those merged, no key is kept that has another ahead of it with no more EFFORT. */
        void keepCheapest(int place, int mostEffort, int mostCost) {
            int limit = mostEffort;
            for (int left = waiting; left > 0 && limit >= 0; left--) {
                long key = take();
                if (costIn(key) > mostCost) {
                    return;
                }
                if (effortIn(key) <= limit) {
                    push(place, key);
                    limit = effortIn(key) - 1;
                }
            }
        }

        /** Of those merged, the one with the least EFFORT is kept of each COST. */
        void keepEachCost(int place, int mostEffort, int mostCost) {
            int last = NONE;
            for (int left = waiting; left > 0 && mostEffort >= 0; left--) {
                long key = take();
                if (costIn(key) > mostCost) {
                    return;
                }
                if (effortIn(key) <= mostEffort && costIn(key) != last) {
                    push(place, key);
                    last = costIn(key);
                }
            }
        }

        /** Keys of like COST and EFFORT become one; the rest of them is summed. */
        void pushSummed(int place, long key) {
            int many = sizeAt(place);
            if (many > 0 && (keys[filled - 1] & COST_AND_EFFORT) == (key & COST_AND_EFFORT)) {
                keys[filled - 1] += key & ~COST_AND_EFFORT;
            } else {
                push(place, key);
            }
        }
    }

    /** Climbs by what they cost to the copper. In its rows a key has, in place of MOVES and STEPS, how many ways there are. */
    private static final class ByCost {
        private static final int WORDS = 16;

        private final Rows rows = new Rows();
        private final long[] reach = new long[PLACES * WORDS];
        private long easiestWays = 0;

        /** The key of the climb with the least EFFORT whatever the knees are, of those the cheapest; or NO_CLIMB. */
        long easiest(Routes routes) {
            rows.begin(0, NO_MOVES);
            for (int place = 1; place <= routes.top; place++) {
                routes.feed(rows, place, -1L, NONE);
                rows.keepCheapest(place, MOST_EFFORT - routes.leastUp[place], routes.purse);
            }
            return rows.keyAt(routes.top, rows.sizeAt(routes.top) - 1);
        }

        /** The key of the climb that costs the least above a cost, of those the one with the least EFFORT; or NO_CLIMB. */
        long firstAbove(Routes routes, int cost) {
            rows.begin(0, 0L);
            for (int place = 1; place <= routes.top; place++) {
                routes.feed(rows, place, COST_AND_EFFORT, NONE);
                rows.keepEachCost(place, routes.knees - routes.leastUp[place], routes.purse);
            }
            for (int i = 0; i < rows.sizeAt(routes.top); i++) {
                long key = rows.keyAt(routes.top, i);
                if (costIn(key) > cost) {
                    return key;
                }
            }
            return NO_CLIMB;
        }

        /** How many climbs cost just so much and tread a step (or NONE). */
        long tally(Routes routes, int cost, int must) {
            easiestWays = 0;
            if (routes.top == 0 || cost > routes.purse || routes.leastUp[0] > routes.knees) {
                return 0;
            }
            findReach(routes);
            rows.begin(0, 1L);
            for (int place = 1; place <= routes.top; place++) {
                routes.feed(rows, place, COST_AND_EFFORT, must);
                keepOnTheWay(place, routes.knees - routes.leastUp[place], cost);
            }
            long sum = 0;
            for (int i = 0; i < rows.sizeAt(routes.top); i++) {
                long ways = rows.keyAt(routes.top, i) & ~COST_AND_EFFORT;
                sum += ways;
                easiestWays = i == 0 ? ways : easiestWays;
            }
            return sum;
        }

        private void keepOnTheWay(int place, int mostEffort, int cost) {
            for (int left = rows.waiting; left > 0 && mostEffort >= 0; left--) {
                long key = rows.take();
                int rest = cost - costIn(key);
                if (rest < 0) {
                    return;
                }
                if (effortIn(key) <= mostEffort && isInReach(place, rest)) {
                    rows.pushSummed(place, key);
                }
            }
        }

        /** Finds of each place what the rest of a climb can cost: without it there would be too many keys. */
        private void findReach(Routes routes) {
            Arrays.fill(reach, 0L);
            reach[routes.top * WORDS] = 1L;
            for (int place = routes.top - 1; place >= 0; place--) {
                for (int far = 1; far <= routes.leap && place + far <= routes.top; far++) {
                    if (routes.open[place + far]) {
                        addReach(place, place + far, routes.cost[Routes.moveTo(place + far, far)]);
                    }
                }
            }
        }

        private void addReach(int place, int from, int cost) {
            int words = cost / 64;
            int bits = cost % 64;
            for (int i = WORDS - 1; i >= words && i >= 0; i--) {
                long moved = reach[from * WORDS + i - words] << bits;
                if (bits > 0 && i > words) {
                    moved |= reach[from * WORDS + i - words - 1] >>> (64 - bits);
                }
                reach[place * WORDS + i] |= moved;
            }
        }

        private boolean isInReach(int place, int cost) {
            int word = cost / 64;
            return word < WORDS && (reach[place * WORDS + word] >>> (cost % 64) & 1L) != 0;
        }
    }

    /** All who have a climb, on the stairs at once. */
    private static final class Feast {
        private static final int MOST_MINUTES = 1000;

        private final boolean[] goes = new boolean[MOST_PILGRIMS];
        private final long[] key = new long[MOST_PILGRIMS];
        private final int[] at = new int[MOST_PILGRIMS];
        private final int[] waited = new int[MOST_PILGRIMS];
        private final int[] on = new int[MOST_STEPS];
        private final int[] waitedFor = new int[MOST_STEPS];
        private int size = 0;
        private int going = 0;
        private int minutes = 0;
        private int crowd = 0;

        void prepare(int steps) {
            size = Math.min(steps, MOST_STEPS);
            going = 0;
            minutes = 0;
            crowd = 0;
            Arrays.fill(on, 0);
            Arrays.fill(waitedFor, 0);
            for (int i = 0; i < MOST_PILGRIMS; i++) {
                goes[i] = false;
                at[i] = NONE;
                waited[i] = 0;
            }
        }

        void invite(int pilgrim, long climb) {
            if (pilgrim >= 0 && pilgrim < MOST_PILGRIMS && !goes[pilgrim]) {
                goes[pilgrim] = true;
                key[pilgrim] = climb;
                going++;
            }
        }

        /** Each minute the highest one goes on, for nobody is ahead of it: it comes to an end. */
        void run(int room) {
            for (int i = 0; i < MOST_MINUTES && going > 0; i++) {
                passMinute(room);
                minutes++;
                for (int step = 0; step < size - 1; step++) {
                    crowd = Math.max(crowd, on[step]);
                }
            }
        }

        /** Who has gone on is above the height that is looked at, and so does not go twice. */
        private void passMinute(int room) {
            for (int height = size - 2; height >= NONE; height--) {
                for (int i = 0; i < MOST_PILGRIMS; i++) {
                    if (goes[i] && at[i] == height) {
                        goOn(i, room);
                    }
                }
            }
        }

        private void goOn(int pilgrim, int room) {
            int to = at[pilgrim] + 1;
            while (to < size - 1 && !treads(key[pilgrim], to)) {
                to++;
            }
            if (to < 0 || to >= size) {
                return;
            }
            if (to < size - 1 && on[to] >= room) {
                waited[pilgrim]++;
                waitedFor[to]++;
                return;
            }
            if (at[pilgrim] >= 0) {
                on[at[pilgrim]]--;
            }
            on[to]++;
            at[pilgrim] = to;
            going -= to == size - 1 ? 1 : 0;
        }

        int longestWaiting() {
            int longest = NONE;
            for (int i = 0; i < MOST_PILGRIMS; i++) {
                if (waited[i] > (longest == NONE ? 0 : waited[longest])) {
                    longest = i;
                }
            }
            return longest;
        }
    }

    /** What is kept under a number. */
    private static final class Kept {
        private final int[] states = new int[MOST_STEPS];
        private final int[] asked = new int[MOST_STEPS];
        private final int[] owned = new int[ALL_SHARES];
        private final int[] earnings = new int[FAMILIES];
        private final int[] at = new int[MOST_PILGRIMS];
        private final int[] kneesLeft = new int[MOST_PILGRIMS];
        private final int[] purseLeft = new int[MOST_PILGRIMS];
        private int size = 0;
        private boolean holds = false;

        void putStairs(Stairs from) {
            System.arraycopy(from.state, 0, states, 0, MOST_STEPS);
            System.arraycopy(from.asks, 0, asked, 0, MOST_STEPS);
            System.arraycopy(from.shares.owned, 0, owned, 0, ALL_SHARES);
        }

        void getStairs(Stairs into) {
            System.arraycopy(states, 0, into.state, 0, MOST_STEPS);
            System.arraycopy(asked, 0, into.asks, 0, MOST_STEPS);
            into.shares.restore(owned);
        }

        void putPilgrim(int i, Pilgrim from) {
            if (i >= 0 && i < MOST_PILGRIMS) {
                at[i] = from.at;
                kneesLeft[i] = from.kneesLeft;
                purseLeft[i] = from.purseLeft;
            }
        }

        void getPilgrim(int i, Pilgrim into) {
            if (i >= 0 && i < MOST_PILGRIMS) {
                into.at = at[i];
                into.kneesLeft = kneesLeft[i];
                into.purseLeft = purseLeft[i];
            }
        }
    }
}
