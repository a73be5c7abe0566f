import java.util.List;
import java.util.function.Consumer;
import java.util.function.Function;
import java.util.function.Supplier;
import java.util.function.ToLongFunction;

/**
 * Two objects made alike: one has a call more, and then both have to answer alike to all that can be asked. What can't
 * be asked without a change (kept ones, sales, feuds, THE TEXT) is asked of a new pair each.
 */
final class Twins {
    private static final List<Function<StairsInSteps, String>> QUESTIONS =
        List.of(Twins::picture, Twins::climbs, Twins::moves, Twins::prices, Twins::sales, x -> kept(x, 0), x -> kept(x, 1),
            Twins::feuds, Twins::textAsStairs, Twins::textAsLaw);

    private Twins() {
    }

    /** Four steps, two pilgrims under way, laws, feuds, a vow, sales, both numbers kept, a ROW of 8 and a text. */
    static StairsInSteps rich() {
        StairsInSteps x = Tell.with("5,9,3@0;5,8,4@1w;6,7,5@2;4,9,2@0");
        Tell.law(x, 0, "a+x*3+j");
        Tell.law(x, 1, "a/2");
        x.feud(0, 1, true);
        x.feud(2, 5, true);
        x.pilgrim(60, 40, 2, 0);
        x.pilgrim(50, 20, 3, 10);
        x.vow(1, 64);
        x.tread(0, 0);
        x.sells(0, 0, 3, 1, 3);
        x.keep(0);
        x.set(2, 0, 6);
        x.sells(1, 1, 2, 1, 4);
        x.tread(1, 1);
        x.keep(1);
        x.wears(1);
        x.rail(77);
        Tell.text(x, "5,9,3@0*2");
        return x;
    }

    /** Refused: it answers so, and nothing has changed. */
    static void refused(String call, long answer, ToLongFunction<StairsInSteps> asked) {
        refused(call, answer, Twins::rich, asked);
    }

    static void refused(String call, long answer, Supplier<StairsInSteps> made, ToLongFunction<StairsInSteps> asked) {
        alike(call, made, x -> Due.is(call, asked.applyAsLong(x), answer), y -> { });
    }

    /** It answers so, and nothing has changed but that THE TEXT is gone. */
    static void emptied(String call, long answer, String text, ToLongFunction<StairsInSteps> asked) {
        Supplier<StairsInSteps> made = () -> {
            StairsInSteps x = rich();
            Tell.text(x, text);
            return x;
        };
        alike(call, made, x -> Due.is(call, asked.applyAsLong(x), answer), y -> y.end(0));
    }

    /** Nothing has changed but the ROW. */
    static void asks(String call, ToLongFunction<StairsInSteps> asked) {
        alike(call, Twins::rich, x -> {
            asked.applyAsLong(x);
            x.rail(77);
        }, y -> { });
    }

    static void alike(String call, Supplier<StairsInSteps> made, Consumer<StairsInSteps> first, Consumer<StairsInSteps> second) {
        for (Function<StairsInSteps, String> question : QUESTIONS) {
            StairsInSteps x = made.get();
            StairsInSteps y = made.get();
            first.accept(x);
            second.accept(y);
            String got = question.apply(x);
            String due = question.apply(y);
            if (!got.equals(due)) {
                Due.fail("behind " + call + " all is\n  " + got + ", and would be without it\n  " + due);
                return;
            }
        }
    }

    static String picture(StairsInSteps x) {
        StringBuilder sb = new StringBuilder();
        for (int what = 0; what < 8; what++) {
            sb.append(x.count(what)).append(' ');
        }
        sb.append("row ").append(Due.rowOf(x));
        for (int step = 0; step < x.count(0); step++) {
            sb.append("step ");
            for (int what = 0; what < 5; what++) {
                sb.append(x.step(step, what)).append(' ');
            }
            for (int family = 0; family < 8; family++) {
                sb.append(x.parts(step, family)).append(' ');
            }
        }
        for (int pilgrim = 0; pilgrim < x.count(1); pilgrim++) {
            sb.append("pilgrim ");
            for (int what = 0; what < 8; what++) {
                sb.append(x.of(pilgrim, what)).append(' ');
            }
        }
        for (int family = 0; family < 8; family++) {
            sb.append(x.earned(family)).append(' ');
        }
        return sb.toString();
    }

    private static String climbs(StairsInSteps x) {
        StringBuilder sb = new StringBuilder();
        for (int pilgrim = 0; pilgrim < x.count(1); pilgrim++) {
            sb.append(x.climb(pilgrim)).append(' ').append(Due.rowOf(x));
            sb.append(x.knees(pilgrim)).append(' ').append(Due.rowOf(x));
            sb.append(x.bears(pilgrim)).append(' ').append(Due.rowOf(x));
        }
        return sb.append(x.all()).append(' ').append(Due.rowOf(x)).toString();
    }

    private static String moves(StairsInSteps x) {
        StringBuilder sb = new StringBuilder();
        for (int pilgrim = 0; pilgrim < x.count(1); pilgrim++) {
            x.returns(pilgrim);
            for (int at = -1; at < x.count(0) - 1; at++) {
                for (int step = at + 1; step < x.count(0); step++) {
                    sb.append(x.costs(pilgrim, step)).append(' ').append(Due.rowOf(x));
                }
                sb.append(x.tread(pilgrim, at + 1)).append(' ').append(x.rests(pilgrim, 30)).append(' ');
            }
        }
        return sb.append(picture(x)).toString();
    }

    private static String prices(StairsInSteps x) {
        StringBuilder sb = new StringBuilder();
        for (int step = 0; step < x.count(0); step++) {
            sb.append(x.best(step)).append(' ').append(Due.rowOf(x));
            sb.append(x.toll(step)).append(' ').append(Due.rowOf(x));
        }
        sb.append(x.feast(1)).append(' ').append(Due.rowOf(x));
        sb.append(x.peace()).append(' ').append(Due.rowOf(x));
        return sb.append(x.market(3)).append(' ').append(Due.rowOf(x)).toString();
    }

    private static String sales(StairsInSteps x) {
        StringBuilder sb = new StringBuilder();
        for (int left = x.undo(), i = 0; left >= 0 && i < 9; left = x.undo(), i++) {
            sb.append("sale ").append(left).append(' ');
            for (int step = 0; step < x.count(0); step++) {
                for (int family = 0; family < 8; family++) {
                    sb.append(x.parts(step, family)).append(' ');
                }
            }
        }
        return sb.toString();
    }

    private static String kept(StairsInSteps x, int i) {
        return x.again(i) + " " + picture(x);
    }

    private static String feuds(StairsInSteps x) {
        StringBuilder sb = new StringBuilder();
        for (int a = 0; a < 8; a++) {
            for (int b = a + 1; b < 8; b++) {
                x.feud(a, b, false);
                sb.append(x.count(5)).append(' ');
            }
        }
        return sb.toString();
    }

    private static String textAsStairs(StairsInSteps x) {
        return x.stairs() + " " + picture(x);
    }

    private static String textAsLaw(StairsInSteps x) {
        return x.law(1) + " " + moves(x);
    }
}
