import java.util.Arrays;
import java.util.Random;

/** Promises 19 to 24 on long stairs: every climb (up to 1,389,537 of them) is gone through one by one. */
public final class AllClimbsTest {
    private static final int CASES = 150;
    private static final String[][] LAWS = {{"", ""}, {"a*r/2+j*3", "a/2+j"}, {"a+x*7-w", "x*3+s/4"}, {"l+a*a/(j+1)", "(a>j)*r"}};
    private static int wrong = 0;

    private final Random random;
    private final int seed;
    private final StairsInSteps x = new StairsInSteps();
    private final int n;
    private final int[] rise;
    private final int[] state;
    private final int[] asks;
    private final int[] widow;
    private final int[] owner;
    private final boolean[][] feud = new boolean[8][8];
    private final int kind;
    private final int knees;
    private final int purse;
    private final int leap;
    private final int load;
    private final int vow;
    private final int[][] cost = new int[25][4];
    private final int[][] effort = new int[25][4];

    private final long[] number = new long[4000];
    private final long[] easiest = new long[4000];
    private final int[] leastEffort = new int[4000];
    private int bestCost = 99999;
    private int bestEffort;
    private int bestMoves;
    private int bestBits;
    private int kneesLeast = 1000;
    private int kneesCost;
    private int wantCost = -1;
    private final long[] through = new long[24];

    private AllClimbsTest(int seed) {
        this.seed = seed;
        random = new Random(seed);
        StringBuilder sb = new StringBuilder();
        int lines = in(4, 7);
        int steps = 0;
        n = seed % 3 == 0 ? 24 : in(12, 24);
        rise = new int[n];
        state = new int[n];
        asks = new int[n];
        widow = new int[n];
        owner = new int[n];
        for (int i = 0; i < lines; i++) {
            int times = i == lines - 1 ? n - steps : Math.max(1, n / lines);
            int r = in(1, seed % 4 == 0 ? 6 : 2);
            int s = in(8, 9);
            int a = in(0, 9);
            int w = random.nextInt(4) == 0 ? 1 : 0;
            int o = in(0, 7);
            sb.append(i == 0 ? "" : ";").append(r).append(',').append(s).append(',').append(a).append('@').append(o);
            sb.append(w == 1 ? "w" : "").append('*').append(times);
            for (int k = 0; k < times; k++, steps++) {
                rise[steps] = r;
                state[steps] = s;
                asks[steps] = a;
                widow[steps] = w;
                owner[steps] = o;
            }
        }
        due("stairs() of " + sb, Tell.stairs(x, sb.toString()), n);
        for (int i = 0; i < n; i++) {
            if (random.nextInt(2) == 0) {
                asks[i] = in(0, 20);
                x.set(i, 0, asks[i]);
            }
            if (random.nextInt(3) == 0) {
                state[i] = in(6, 9);
                x.set(i, 1, state[i]);
            }
        }
        for (int i = 0; i < 12; i++) {
            int a = in(0, 7);
            int b = in(0, 7);
            if (a != b) {
                feud[a][b] = true;
                feud[b][a] = true;
                x.feud(a, b, true);
            }
        }
        kind = random.nextInt(LAWS.length);
        due("law(0)", Tell.law(x, 0, LAWS[kind][0]), 0);
        due("law(1)", Tell.law(x, 1, LAWS[kind][1]), 0);
        knees = in(80, 120);
        purse = random.nextBoolean() ? 999 : in(50, 400);
        leap = seed % 3 == 0 ? 3 : in(1, 3);
        load = in(0, 3);
        vow = random.nextBoolean() ? 0 : 1 << in(0, 7);
        due("pilgrim", x.pilgrim(knees, purse, leap, load), 0);
        due("vow", x.vow(0, vow), 0);
        Arrays.fill(leastEffort, 99999);
    }

    public static void main(String[] args) {
        int cases = args.length > 0 ? Integer.parseInt(args[0]) : CASES;
        for (int seed = 1; seed <= cases && wrong < 10; seed++) {
            new AllClimbsTest(seed).go();
        }
        System.out.println(wrong == 0 ? "all climbs are as due" : wrong + " answers are not as due");
        if (wrong != 0) {
            System.exit(1);
        }
    }

    private int in(int least, int most) {
        return least + random.nextInt(most - least + 1);
    }

    private void due(String call, long got, long want) {
        if (got != want) {
            wrong++;
            System.out.println("seed " + seed + ": " + call + " answered " + got + ", due is " + want);
        }
    }

    private int price(int law, int step, int from, int j) {
        int a = asks[step];
        int r = rise[step];
        int s = state[step];
        int w = widow[step];
        int meets = from >= 0 && feud[owner[step]][owner[from]] ? 1 : 0;
        int v;
        if (kind == 0) {
            v = law == 1 || w == 1 ? 0 : a;
        } else if (kind == 1) {
            v = law == 0 ? a * r / 2 + j * 3 : a / 2 + j;
        } else if (kind == 2) {
            v = law == 0 ? a + meets * 7 - w : meets * 3 + s / 4;
        } else {
            v = law == 0 ? load + a * a / (j + 1) : (a > j ? 1 : 0) * r;
        }
        return Math.max(0, Math.min(99, v));
    }

    private void go() {
        for (int at = -1; at < n; at++) {
            for (int far = 1; far <= leap && at + far < n; far++) {
                int to = at + far;
                int rises = 0;
                for (int i = at + 1; i <= to; i++) {
                    rises += rise[i];
                    cost[at + 1][far] += price(i == to ? 0 : 1, i, at, far - 1);
                }
                effort[at + 1][far] = rises * (10 + load) / 10 + 9 - state[to] + 5 * (far - 1);
            }
        }
        walk(-1, 0, 0, 0, 0);
        checkClimb();
        checkCosts();
        for (int i = 0; i < 3; i++) {
            checkTrod();
        }
    }

    /** The bits are such that of two with as many STEPS the greater has the lesser row. */
    private void walk(int at, int spent, int used, int moves, int bits) {
        if (at == n - 1) {
            arrive(spent, used, moves, bits);
            return;
        }
        for (int far = 1; far <= leap && at + far < n; far++) {
            if ((vow >> owner[at + far] & 1) == 0) {
                walk(at + far, spent + cost[at + 1][far], used + effort[at + 1][far], moves + 1, bits | 1 << (23 - at - far));
            }
        }
    }

    private void arrive(int spent, int used, int moves, int bits) {
        if (spent > purse) {
            return;
        }
        if (used < kneesLeast || used == kneesLeast && spent < kneesCost) {
            kneesLeast = used;
            kneesCost = spent;
        }
        if (used > knees) {
            return;
        }
        if (spent == wantCost) {
            for (int i = 0; i < n; i++) {
                through[i] += bits >> (23 - i) & 1;
            }
        }
        number[spent]++;
        easiest[spent] = used < leastEffort[spent] ? 1 : used == leastEffort[spent] ? easiest[spent] + 1 : easiest[spent];
        leastEffort[spent] = Math.min(leastEffort[spent], used);
        boolean better = spent != bestCost ? spent < bestCost : used != bestEffort ? used < bestEffort
            : moves != bestMoves ? moves < bestMoves : bits > bestBits;
        if (better) {
            bestCost = spent;
            bestEffort = used;
            bestMoves = moves;
            bestBits = bits;
        }
    }

    private void checkClimb() {
        boolean some = bestCost < 99999;
        due("climb(0)", x.climb(0), some ? bestCost : -2);
        if (some) {
            due("EFFORT", x.row(0), bestEffort);
            due("MOVES", x.row(1), bestMoves);
            due("numbers", x.count(6), 2 + bestMoves);
            for (int i = 0; i < bestMoves; i++) {
                due("a step", bestBits >> (23 - (int) x.row(2 + i)) & 1, 1);
            }
        }
        due("knees(0)", x.knees(0), kneesLeast > 999 ? -2 : kneesLeast);
        if (kneesLeast <= 999) {
            due("its COST", x.row(0), kneesCost);
        }
    }

    private void checkCosts() {
        int above = -1;
        for (int c = 0; c <= 999; c++) {
            if (number[c] > 0 || c % 97 == 0) {
                due("ways(0," + c + ")", x.ways(0, c), number[c]);
                due("the easiest", x.row(0), easiest[c]);
            }
            if (number[c] > 0) {
                due("next(0," + above + ")", x.next(0, above), c);
                due("its EFFORT", x.row(0), leastEffort[c]);
                above = c;
            }
        }
        if (above < 999) {
            due("next(0," + above + ")", x.next(0, above), -2);
        }
    }

    private void checkTrod() {
        int first = in(0, 999);
        wantCost = -1;
        for (int i = 0; i < 1000 && wantCost < 0; i++) {
            wantCost = number[(first + i) % 1000] > 0 ? (first + i) % 1000 : -1;
        }
        if (wantCost < 0) {
            due("trod(0,0,0)", x.trod(0, 0, 0), -2);
            return;
        }
        Arrays.fill(through, 0);
        Arrays.fill(number, 0);
        walk(-1, 0, 0, 0, 0);
        for (int i = 0; i < n; i++) {
            due("trod(0," + wantCost + "," + i + ")", x.trod(0, wantCost, i), 0);
            due("its share", x.row(0) * number[wantCost], x.row(1) * through[i]);
            long a = x.row(0);
            long b = x.row(1);
            while (a != 0) {
                long rest = b % a;
                b = a;
                a = rest;
            }
            due("lowest terms", b, 1);
            due("who(" + wantCost + "," + i + ")", x.who(wantCost, i), through[i] > 0 ? 1 : 0);
        }
    }
}
