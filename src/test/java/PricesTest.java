import java.util.Random;

/** Promises 31 and 34 to 36 on long stairs: prices are tried one by one with set() and climb(). */
public final class PricesTest {
    private static final int CASES = 120;
    private static final String[][] LAWS = {{"", ""}, {"a", "a/2"}, {"a*2-r", "a"}, {"20-a", "a-3"}, {"a*a/4", ""}, {"r+5", "a*s"}};
    private static int wrong = 0;

    private final Random random;
    private final int seed;
    private final int kind;
    private final StairsInSteps x;
    private final StairsInSteps other;
    private int n = 0;
    private int pilgrims = 0;

    private PricesTest(int seed) {
        this.seed = seed;
        this.random = new Random(seed);
        this.kind = seed % LAWS.length;
        this.x = new StairsInSteps();
        this.other = new StairsInSteps();
        long chosen = random.nextLong();
        build(x, new Random(chosen));
        build(other, new Random(chosen));
    }

    public static void main(String[] args) {
        int cases = args.length > 0 ? Integer.parseInt(args[0]) : CASES;
        for (int seed = 1; seed <= cases && wrong < 10; seed++) {
            new PricesTest(seed).go();
        }
        System.out.println(wrong == 0 ? "all prices are as due" : wrong + " answers are not as due");
        if (wrong != 0) {
            System.exit(1);
        }
    }

    private void due(String call, long got, long want) {
        if (got != want) {
            wrong++;
            System.out.println("seed " + seed + ": " + call + " answered " + got + ", due is " + want);
        }
    }

    private void build(StairsInSteps it, Random dice) {
        n = 6 + dice.nextInt(19);
        StringBuilder sb = new StringBuilder();
        int half = n / 2;
        sb.append(1 + dice.nextInt(3)).append(",9,").append(dice.nextInt(6)).append("@0*").append(half).append(';');
        sb.append(1 + dice.nextInt(2)).append(",8,").append(dice.nextInt(6)).append("@1w*").append(n - half);
        due("stairs()", Tell.stairs(it, sb.toString()), n);
        for (int i = 0; i < n; i++) {
            it.set(i, 0, dice.nextInt(9));
            it.sells(i, i < half ? 0 : 1, dice.nextInt(8), 9, 9);
        }
        due("law(0)", Tell.law(it, 0, LAWS[kind][0]), 0);
        due("law(1)", Tell.law(it, 1, LAWS[kind][1]), 0);
        pilgrims = 1 + dice.nextInt(6);
        for (int i = 0; i < pilgrims; i++) {
            it.pilgrim(60 + dice.nextInt(61), 10 + dice.nextInt(150), 1 + dice.nextInt(3), dice.nextInt(4));
            it.vow(i, dice.nextInt(3) == 0 ? 1 << dice.nextInt(8) : 0);
        }
    }

    private int price(int law, int step, int asked) {
        int r = other.step(step, 0);
        int s = other.step(step, 1);
        int v;
        switch (kind) {
            case 0:
                v = law == 1 || other.step(step, 3) == 1 ? 0 : asked;
                break;
            case 1:
                v = law == 0 ? asked : asked / 2;
                break;
            case 2:
                v = law == 0 ? asked * 2 - r : asked;
                break;
            case 3:
                v = law == 0 ? 20 - asked : asked - 3;
                break;
            case 4:
                v = law == 0 ? asked * asked / 4 : 0;
                break;
            default:
                v = law == 0 ? r + 5 : asked * s;
                break;
        }
        return Math.max(0, Math.min(99, v));
    }

    /** What the other object pays a step that asks so much; how many climb is left in its number of climbers. */
    private int climbers = 0;

    private int paid(int step, int asked) {
        int was = other.set(step, 0, asked);
        int sum = 0;
        climbers = 0;
        for (int i = 0; i < pilgrims; i++) {
            if (other.climb(i) >= 0) {
                climbers++;
                boolean trodden = false;
                for (int k = 2; k < other.count(6); k++) {
                    trodden |= other.row(k) == step;
                }
                sum += price(trodden ? 0 : 1, step, asked);
            }
        }
        other.set(step, 0, was);
        return sum;
    }

    private void checkStep(int step) {
        int most = 0;
        int toll = 0;
        paid(step, 0);
        int atNought = climbers;
        for (int v = 0; v <= 20; v++) {
            int due = paid(step, v);
            due("would(" + step + "," + v + ")", x.would(step, v), due);
            toll = climbers == atNought ? v : toll;
            most = due > paid(step, most) ? v : most;
        }
        due("best(" + step + ")", x.best(step), most);
        due("its row", x.row(0), paid(step, most));
        due("toll(" + step + ")", x.toll(step), toll);
        due("its row", x.row(0), atNought);
    }

    private boolean goRound() {
        boolean changed = false;
        for (int step = 0; step < n; step++) {
            int most = 0;
            int paidMost = -1;
            for (int v = 0; v <= 20; v++) {
                int paid = paid(step, v);
                if (paid > paidMost) {
                    paidMost = paid;
                    most = v;
                }
            }
            if (paid(step, other.step(step, 2)) < paidMost) {
                other.set(step, 0, most);
                changed = true;
            }
        }
        return changed;
    }

    private void go() {
        for (int i = 0; i < 3; i++) {
            checkStep(random.nextInt(n));
        }
        int rounds = 1 + random.nextInt(3);
        int changes = 0;
        boolean changed = true;
        for (int i = 0; i < rounds && changed; i++) {
            changed = goRound();
            changes += changed ? 1 : 0;
        }
        due("market(" + rounds + ")", x.market(rounds), changes);
        int sum = 0;
        for (int i = 0; i < n; i++) {
            sum += other.step(i, 2);
            due("asks of " + i, x.step(i, 2), other.step(i, 2));
        }
        x.market(4);
        due("stands", x.row(0), changed ? 0 : 1);
        due("sum", x.row(1), sum);
    }
}
