import com.sun.management.ThreadMXBean;
import java.lang.management.ManagementFactory;

/** Runs of 512 of the dearest calls: they end in good time, and what they make stays far within the room. */
public final class LongRunsTest {
    private static final int CALLS = 512;
    /** 600,000 objects take 9.6 million bytes at least, 7.3 million elements 7.3 million. */
    private static final long MOST_BYTES = 4_000_000;
    private static final long MOST_MILLIS = 60_000;
    private static final String STAIRS = "1,9,3@0*3;1,8,7@1*3;2,9,2@2*3;1,7,9@3*3;1,9,8@4*3;1,9,4@5*3;1,8,5@6*6";
    private static final String[][] LAWS = {
        {"", ""},
        {"a*r*7/3+j*(s-2)*x-(l+1)*-w+a*a/(x+2)+j", "a/2+j*3+x*(r+s)"},
        {"(r*r*r+a*7)-(a*a/(r+1))*9/(1+j)+a*r*3/2", "((a*3+r*5)/(j+1)-(s*2-9)*x)*(l+1)/2+a"},
    };
    private static final String[] CALLED = {
        "market", "best", "peace", "bears", "feast", "ways", "trod", "who", "next", "knees", "toll", "would", "whole", "shut", "breaks", "all",
        "climb", "jam", "rules", "sales", "texts", "pays",
    };
    private static int wrong = 0;

    public static void main(String[] args) {
        ThreadMXBean bean = (ThreadMXBean) ManagementFactory.getThreadMXBean();
        long thread = Thread.currentThread().getId();
        long begun = System.nanoTime();
        for (String[] laws : LAWS) {
            for (int kind = 0; kind < CALLED.length; kind++) {
                long before = bean.getThreadAllocatedBytes(thread);
                long start = System.nanoTime();
                StairsInSteps x = build(laws);
                for (int i = 0; i < CALLS; i++) {
                    ask(x, kind, i);
                }
                long bytes = bean.getThreadAllocatedBytes(thread) - before;
                long millis = (System.nanoTime() - start) / 1_000_000;
                if (bytes > MOST_BYTES || millis > MOST_MILLIS) {
                    wrong++;
                    System.out.println(CALLED[kind] + " of law " + laws[0] + ": " + bytes + " bytes, " + millis + " ms");
                }
                if (args.length > 0) {
                    System.out.printf("%-8s %8d bytes %6d ms%n", CALLED[kind], bytes, millis);
                }
            }
        }
        System.out.println("long runs took " + (System.nanoTime() - begun) / 1_000_000 + " ms, " + wrong + " were too dear");
        if (wrong != 0) {
            System.exit(1);
        }
    }

    private static StairsInSteps build(String[] laws) {
        StairsInSteps x = new StairsInSteps();
        if (Tell.stairs(x, STAIRS) != 24) {
            throw new IllegalStateException("stairs");
        }
        for (int i = 0; i < 2; i++) {
            if (Tell.law(x, i, laws[i]) != 0) {
                throw new IllegalStateException("law");
            }
        }
        for (int i = 0; i < 24; i++) {
            x.set(i, 0, i * 7 % 21);
            x.sells(i, x.step(i, 4), i % 8, 9, 9);
        }
        for (int a = 0; a < 8; a++) {
            for (int b = 0; b < a; b++) {
                x.feud(a, b, true);
            }
        }
        for (int i = 0; i < 6; i++) {
            x.pilgrim(120 - i, 999 - i * 50, 3, i % 3);
            x.vow(i, i > 3 ? 1 << i : 0);
        }
        return x;
    }

    private static long ask(StairsInSteps x, int kind, int i) {
        switch (kind) {
            case 0:
                return i % 2 == 0 ? x.sheet(2, 24, i % 21, i * 7 % 5) : x.market(3);
            case 1:
                return x.best(i % 24);
            case 2:
                return x.peace();
            case 3:
                return x.bears(i % 6);
            case 4:
                return x.feast(1 + i % 6);
            case 5:
                return x.ways(i % 6, i);
            case 6:
                return x.trod(i % 6, i, i % 24);
            case 7:
                return x.who(i, i % 24);
            case 8:
                return x.next(i % 6, i);
            case 9:
                return x.knees(i % 6);
            case 10:
                return x.toll(i % 24);
            case 11:
                return x.would(i % 24, i % 21);
            case 12:
                return x.whole(i % 24);
            case 13:
                return x.shut(i % 24);
            case 14:
                return x.vow(i % 6, 1 << i % 8) + x.breaks(i % 6);
            case 15:
                return x.all();
            case 16:
                return x.climb(i % 6);
            case 17:
                return x.jam();
            case 18:
                return x.rules(i % 2, i % 24) + x.rail(i);
            case 19:
                return x.sells(i % 24, i % 8, (i + 3) % 8, 1, 2) + x.dies(i % 8, 255 - (1 << i % 8)) + x.undo();
            case 20:
                return texts(x, i);
            default:
                return x.tread(i % 6, x.of(i % 6, 0) + 1 + i % 3) + x.rests(i % 6, 30) + (x.keep(i % 2) ? x.returns(i % 6) : 0)
                    + (x.again(0) ? 1 : 0);
        }
    }

    private static long texts(StairsInSteps x, int i) {
        if (i % 2 == 0) {
            return Tell.stairs(x, STAIRS);
        }
        return Tell.law(x, i / 2 % 2, "((((a)+r)*s)-w)+((((a)+r)*s)-w)*----x+j");
    }
}
