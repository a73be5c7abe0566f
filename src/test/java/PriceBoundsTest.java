/** Promises 27 to 36, sentence by sentence: broken steps, and what they ask. */
public final class PriceBoundsTest {
    private static final int[] NO_STEP = {-1, 4, 24, 1000, Integer.MIN_VALUE, Integer.MAX_VALUE};

    public static void main(String[] args) {
        all();
        whole();
        mends();
        shut();
        toll();
        peace();
        peaceNone();
        lamps();
        would();
        best();
        market();
        marketOthers();
        Due.finish(27, 36);
    }

    private static StairsInSteps noSteps() {
        StairsInSteps x = new StairsInSteps();
        x.pilgrim(60, 30, 2, 0);
        x.feud(2, 4, true);
        x.all();
        return x;
    }

    private static void all() {
        Due.sentence(27, "The sum of COSTS of climb() of all PILGRIMS who have one; the ROW: how many have one, the sum of their EFFORTS");
        StairsInSteps x = Tell.with("2,9,5@0;2,3,1@1;2,9,3@2");
        Due.is("nobody", x.all(), 0);
        Due.row(x, 0, 0);
        x.pilgrim(60, 99, 2, 0);
        x.pilgrim(9, 99, 1, 0);
        x.pilgrim(60, 99, 1, 0);
        // 0 by 1 and 2: 4 with 4 + 6 + 5 + 2; 1 would need 12; 2 by all: 9 with 12
        Due.is("two of three", x.all(), 4 + 9);
        Due.row(x, 2, 17 + 12);
        StairsInSteps y = Tell.with("5,9,20@0*24");
        for (int i = 0; i < 6; i++) {
            y.pilgrim(120, 999, 1, 0);
        }
        Due.is("six", y.all(), 6 * 480);
        Due.row(y, 6, 6 * 120);
        StairsInSteps z = noSteps();
        Due.is("no STEPS", z.all(), 0);
        Due.row(z, 0, 0);
        Twins.asks("all", t -> t.all());
    }

    private static void whole() {
        Due.sentence(28, "Were a STEP whole (STATE 9): the ROW: how many more PILGRIMS would have a climb(), by how much the sums of "
            + "COSTS, of EFFORTS that all() tells would be more (all three may be below 0)");
        StairsInSteps x = Tell.with("2,9,5@0;2,3,1@1;2,9,3@2");
        x.pilgrim(60, 99, 2, 0);
        x.pilgrim(9, 99, 1, 0);
        x.pilgrim(60, 99, 1, 0);
        Due.is("whole(1)", x.whole(1), 1);
        // one more, with 9 and 6; the others have 6 less EFFORT each
        Due.row(x, 1, 9, 6 - 6 - 6);
        StairsInSteps y = Tell.with("2,0,5@0;2,9,1@1");
        y.pilgrim(60, 9, 1, 0);
        Tell.law(y, 0, "s+(s=0)*0");
        Due.is("it costs 0 and 9", y.climb(0), 9);
        Due.is("whole(0)", y.whole(0), 1);
        Due.row(y, -1, -9, -13);
        Due.sentence(28, "1, if one of the three is not 0, else 0");
        Due.is("whole already", x.whole(0), 0);
        Due.row(x, 0, 0, 0);
        StairsInSteps z = Tell.with("2,9,5@0;2,8,1@1");
        z.pilgrim(60, 99, 1, 0);
        Due.is("EFFORT alone", z.whole(1), 1);
        Due.row(z, 0, 0, -1);
        z.set(1, 1, 9);
        z.set(0, 1, 8);
        Tell.law(z, 0, "9-s");
        Due.is("COST and EFFORT", z.whole(0), 1);
        Due.row(z, 0, -1, -1);
        StairsInSteps v = Tell.with("2,8,0@0;2,9,0@1");
        v.pilgrim(4, 99, 1, 0);
        v.pilgrim(60, 99, 2, 0);
        v.vow(1, 1);
        Due.is("one more", v.whole(0), 1);
        Due.row(v, 1, 0, 4);
        Due.is("nobody", Tell.with("2,8,0@0;2,9,0@1").whole(0), 0);
        Due.sentence(28, "NONE: none such");
        for (int s : NO_STEP) {
            Twins.refused("whole(" + s + ")", -1, t -> t.whole(s));
        }
        Twins.refused("no STEPS", -1, PriceBoundsTest::noSteps, t -> t.whole(0));
        Due.sentence(28, "Nothing changes");
        for (int s = 0; s < 4; s++) {
            int step = s;
            Twins.asks("whole(" + s + ")", t -> t.whole(step));
        }
    }

    private static void mends() {
        Due.sentence(29, "A STEP is mended: 9 less STATE times RISE coppers, divided among its FAMILIES by PARTS "
            + "(taken from what they EARNED, also below 0): how many");
        StairsInSteps x = Tell.with("7,4,5@0;2,3,1@1;30,0,0@7");
        x.sells(0, 0, 3, 1, 2);
        Due.is("5 times 7", x.mends(0), 35);
        Due.is("of equal rests the first pays", x.earned(0), -18);
        Due.is("the other", x.earned(3), -17);
        Due.is("it is whole", x.step(0, 1), 9);
        Due.is("whole already", x.mends(0), 0);
        Due.is("nothing more", x.count(4), -35);
        Due.is("9 times 30", x.mends(2), 270);
        Due.is("taken", x.earned(7), -270);
        StairsInSteps y = Tell.with("1,8,20@2;1,9,0@0");
        y.pilgrim(60, 99, 1, 0);
        y.tread(0, 0);
        Due.is("1 times 1", y.mends(0), 1);
        Due.is("20 less 1", y.earned(2), 19);
        Due.sentence(29, "Refused: none such");
        for (int s : NO_STEP) {
            Twins.refused("mends(" + s + ")", -1, t -> t.mends(s));
        }
        Twins.refused("no STEPS", -1, PriceBoundsTest::noSteps, t -> t.mends(0));
    }

    private static void shut() {
        Due.sentence(30, "Were a STEP shut (nobody treads it): the ROW: as whole()");
        StairsInSteps x = Tell.with("2,9,5@0;2,3,1@1;2,9,3@2");
        x.pilgrim(60, 99, 2, 0);
        x.pilgrim(60, 99, 1, 0);
        // 4 with 17, and 9 with 12
        Due.is("over 0 one can leap", x.shut(0), 1);
        Due.row(x, -1, -9, -12);
        Due.is("over 1, too: 8 with 2 + 4 + 5", x.shut(1), 1);
        Due.row(x, -1, 8 - 13, 11 - 29);
        Due.is("nobody comes up", x.shut(2), 1);
        Due.row(x, -2, -13, -29);
        x.pilgrim(60, 99, 3, 0);
        Due.is("LEAP 3 has 3 with 16", x.all(), 4 + 9 + 3);
        Due.is("shut(1)", x.shut(1), 1);
        Due.row(x, -1, 8 + 3 - 16, 11 + 16 - 45);
        Due.sentence(30, "1, if one of the three is not 0, else 0");
        x.vow(1, 1);
        Due.is("nobody treads it", x.shut(0), 0);
        Due.row(x, 0, 0, 0);
        StairsInSteps y = Tell.with("2,9,0@0;2,9,0@1");
        y.pilgrim(60, 99, 2, 0);
        Due.is("EFFORT alone", y.shut(0), 1);
        Due.row(y, 0, 0, 5);
        y.set(0, 0, 3);
        y.set(0, 1, 0);
        Due.is("of no use", y.shut(0), 0);
        Due.sentence(30, "NONE: none such");
        for (int s : NO_STEP) {
            Twins.refused("shut(" + s + ")", -1, t -> t.shut(s));
        }
        Twins.refused("no STEPS", -1, PriceBoundsTest::noSteps, t -> t.shut(0));
        Due.sentence(30, "Nothing changes");
        for (int s = 0; s < 4; s++) {
            int step = s;
            Twins.asks("shut(" + s + ")", t -> t.shut(step));
        }
    }

    private static void toll() {
        Due.sentence(31, "The greatest ASKS (0 .. 20) of a STEP with which as many PILGRIMS have a climb() as if it asked 0; "
            + "the ROW: how many");
        StairsInSteps x = Tell.with("1,9,3@0;1,9,3@1;1,9,3@2");
        Due.is("nobody", x.toll(0), 20);
        Due.row(x, 0);
        x.pilgrim(60, 26, 1, 0);
        Due.is("26 less 6", x.toll(0), 20);
        Due.row(x, 1);
        x.pilgrim(60, 25, 1, 0);
        Due.is("25 less 6", x.toll(0), 19);
        Due.row(x, 2);
        x.pilgrim(60, 7, 1, 0);
        Due.is("7 less 6", x.toll(0), 1);
        x.pilgrim(60, 6, 1, 0);
        Due.is("6 less 6", x.toll(0), 0);
        Due.row(x, 4);
        x.pilgrim(60, 5, 1, 0);
        Due.is("5 is too little anyhow", x.toll(0), 0);
        Due.row(x, 4);
        dueByKnees((t, step) -> t.toll(step), 20, 20);
        StairsInSteps y = Tell.with("1,9,3@0;1,9,3@1;1,9,3@2");
        y.pilgrim(60, 40, 1, 0);
        Tell.law(y, 0, "20-a");
        y.pilgrim(60, 48, 1, 0);
        // 17, 17 and 20 less what it asks: the first one climbs from 14 on, the second from 6 on
        Due.is("as many, not more", y.toll(0), 5);
        Due.row(y, 0);
        StairsInSteps z = Tell.with("1,9,3@0;1,9,3@1;1,9,3@2");
        z.pilgrim(60, 40, 1, 0);
        Tell.law(z, 0, "(a=7)*90");
        Due.is("in between it may be fewer", z.toll(1), 20);
        Due.row(z, 1);
        Due.sentence(31, "NONE: none such");
        for (int s : NO_STEP) {
            Twins.refused("toll(" + s + ")", -1, t -> t.toll(s));
        }
        Twins.refused("no STEPS", -1, PriceBoundsTest::noSteps, t -> t.toll(0));
        Due.sentence(31, "Nothing changes");
        for (int s = 0; s < 4; s++) {
            int step = s;
            Twins.asks("toll(" + s + ")", t -> t.toll(step));
        }
    }

    private static void peace() {
        Due.sentence(32, "The FEUD (two FAMILIES, the less number first) without which the sum of COSTS that all() tells would be the least");
        StairsInSteps x = Tell.with("1,9,1@0;1,9,1@1;1,9,1@6;1,9,2@7");
        x.pilgrim(60, 99, 1, 0);
        x.feud(1, 0, true);
        x.feud(6, 1, true);
        x.feud(7, 6, true);
        Tell.law(x, 0, "a+x*a*10");
        // 1, 11, 11 and 22: without 6 and 7 it is 1, 11, 11, 2
        Due.is("67", x.peace(), 67);
        Due.row(x, 25, 1);
        StairsInSteps far = Tell.with("1,9,20@5;1,9,0@1;1,9,0@2;1,9,20@3");
        far.pilgrim(60, 99, 3, 0);
        far.vow(0, 2 + 4);
        far.feud(4, 7, true);
        far.feud(3, 5, true);
        Tell.law(far, 0, "a+x*9");
        // from 0 it has to leap to 3, where a less FAMILY is above a greater one
        Due.is("two leapt over lie between them", far.peace(), 35);
        Due.row(far, 40, 1);
        StairsInSteps near = Tell.with("1,9,20@5;1,9,20@3");
        near.pilgrim(60, 99, 1, 0);
        near.feud(5, 3, true);
        Tell.law(near, 0, "a+x*9");
        Due.is("with FEUD", near.all(), 49);
        Due.is("a less FAMILY above a greater one", near.peace(), 35);
        Due.row(near, 40, 1);
        Tell.law(far, 0, "a");
        Tell.law(far, 1, "x*9");
        far.feud(1, 5, true);
        Due.is("one leapt over", far.peace(), 15);
        Due.row(far, 40, 1);
        Due.sentence(32, "of those with which as many or more have a climb() as now");
        Tell.law(x, 0, "(1-x)*30");
        // in FEUD it is free: 30 now; without one of them 60
        x.pilgrim(60, 30, 1, 0);
        x.feud(2, 3, true);
        Due.is("as many", x.peace(), 23);
        Due.row(x, 60, 2);
        x.feud(2, 3, false);
        Due.is("fewer", x.peace(), -2);
        x.pilgrim(60, 29, 1, 0);
        Tell.law(x, 0, "x*30");
        x.feud(0, 1, false);
        Due.is("60 of one alone", x.all(), 60);
        x.feud(7, 6, false);
        Due.is("30 of each of two", x.all(), 60);
        Due.is("more have one", x.peace(), 16);
        Due.row(x, 0, 3);
        Due.sentence(32, "of equal ones the first: the less number times 10, and the other: it; the ROW: that sum, how many have one then");
        StairsInSteps y = Tell.with("1,9,1@0;1,9,1@1");
        y.pilgrim(60, 99, 1, 0);
        y.feud(7, 6, true);
        Due.is("the last", y.peace(), 67);
        Due.row(y, 2, 1);
        y.feud(5, 4, true);
        Due.is("45 is ahead of 67", y.peace(), 45);
        y.feud(7, 3, true);
        Due.is("37 is ahead of 45", y.peace(), 37);
        y.feud(5, 3, true);
        Due.is("35 is ahead of 37", y.peace(), 35);
        y.feud(0, 7, true);
        Due.is("7", y.peace(), 7);
        y.feud(1, 0, true);
        Due.is("1", y.peace(), 1);
        Due.row(y, 2, 1);
        y.set(0, 0, 20);
        y.set(1, 0, 20);
        Due.is("COSTS are compared", y.peace(), 1);
        Due.row(y, 40, 1);
        Due.sentence(32, "Nothing changes");
        Twins.asks("peace", t -> t.peace());
    }

    private static void peaceNone() {
        Due.sentence(32, "-2: there is no such FEUD");
        StairsInSteps x = Tell.with("1,9,1@0;1,9,1@1");
        x.pilgrim(60, 30, 1, 0);
        x.lamps(0);
        Due.is("none", x.peace(), -2);
        x.feud(0, 1, true);
        Tell.law(x, 0, "(1-x)*30");
        Due.is("none that lets as many climb", x.peace(), -2);
        Due.row(x, 0, 1);
        StairsInSteps y = noSteps();
        Due.is("no STEPS, one FEUD", y.peace(), 24);
        Due.row(y, 0, 0);
        Due.is("a new one", new StairsInSteps().peace(), -2);
    }

    /** The fewest lamps by trying all sets of them. */
    private static int fewest(int steps, int d) {
        int least = steps;
        for (int set = 1; set < 1 << steps; set++) {
            boolean light = Integer.bitCount(set) < least;
            for (int step = 0; light && step < steps; step++) {
                boolean near = false;
                for (int lamp = Math.max(0, step - d); lamp <= step + d && lamp < steps; lamp++) {
                    near |= (set >> lamp & 1) != 0;
                }
                light = near;
            }
            least = light ? Integer.bitCount(set) : least;
        }
        return least;
    }

    private static void lamps() {
        Due.sentence(33, "The fewest lamps on STEPS so that each STEP has one that is d STEPS (0 .. 23) from it at most: how many");
        for (int steps = 2; steps <= 12; steps++) {
            StairsInSteps x = Tell.with("1,9,1@0*" + steps);
            for (int d = 0; d <= 23; d++) {
                Due.is("lamps(" + d + ") of " + steps, x.lamps(d), fewest(steps, d));
            }
        }
        Due.sentence(33, "the ROW: the first way, each lamp as high as can be");
        StairsInSteps x = Tell.with("1,9,1@0*24");
        Due.is("each STEP", x.lamps(0), 24);
        Due.is("24 numbers", x.count(6), 24);
        for (int i = 0; i < 24; i++) {
            Due.is("lamp", x.row(i), i);
        }
        Due.is("lamps(1)", x.lamps(1), 8);
        Due.row(x, 1, 4, 7, 10, 13, 16, 19, 22);
        Due.is("lamps(4)", x.lamps(4), 3);
        Due.row(x, 4, 13, 22);
        Due.is("lamps(5)", x.lamps(5), 3);
        Due.row(x, 5, 16, 23);
        Due.is("lamps(11)", x.lamps(11), 2);
        Due.row(x, 11, 23);
        Due.is("lamps(12)", x.lamps(12), 1);
        Due.row(x, 12);
        Due.is("lamps(22)", x.lamps(22), 1);
        Due.row(x, 22);
        Due.is("lamps(23)", x.lamps(23), 1);
        Due.row(x, 23);
        StairsInSteps y = Tell.with("1,9,1@0*2");
        Due.is("of 2", y.lamps(23), 1);
        Due.row(y, 1);
        Due.sentence(33, "NONE: others, no STEPS");
        int[] others = {-1, 24, Integer.MIN_VALUE, Integer.MAX_VALUE};
        for (int d : others) {
            Twins.refused("lamps(" + d + ")", -1, t -> t.lamps(d));
        }
        Twins.refused("no STEPS", -1, PriceBoundsTest::noSteps, t -> t.lamps(0));
        Twins.asks("lamps", t -> t.lamps(1));
    }

    private interface OfAStep {
        int ask(StairsInSteps x, int step);
    }

    /** What is told of STEP 0, if a PILGRIM has just enough KNEES, and if it has one less. */
    private static void dueByKnees(OfAStep call, int enough, int oneLess) {
        for (int less = 0; less < 2; less++) {
            StairsInSteps x = Tell.with("10,9,3@0;10,5,3@1;10,9,3@2");
            x.pilgrim(34 - less, 99, 1, 0);
            for (int step = 0; step < 3; step++) {
                Due.is("KNEES " + (34 - less), call.ask(x, step), less == 0 ? enough : oneLess);
            }
        }
    }

    private static void would() {
        Due.sentence(34, "What a STEP would be paid in climb() of all PILGRIMS (LAW 0 as trodden, LAW 1 as leapt over), "
            + "if it asked v (0 .. 20): it");
        StairsInSteps x = Tell.with("1,9,3@0;1,9,3@1;1,9,3@2");
        Due.is("nobody", x.would(0, 20), 0);
        x.pilgrim(60, 26, 1, 0);
        x.pilgrim(60, 25, 1, 0);
        Due.is("0", x.would(0, 0), 0);
        Due.is("19", x.would(0, 19), 38);
        Due.is("20", x.would(0, 20), 20);
        x.pilgrim(60, 99, 2, 0);
        // by 0 and 2 up to 3 (the least row), else by 1 and 2
        Due.is("3", x.would(0, 3), 9);
        Due.is("4", x.would(0, 4), 8);
        Tell.law(x, 1, "a*2");
        x.vow(2, 1);
        Due.is("leapt over", x.would(0, 4), 4 + 4 + 8);
        Tell.law(x, 0, "99");
        Due.is("nobody has a CLIMB", x.would(0, 4), 0);
        dueByKnees((t, step) -> t.would(step, 5), 5, 0);
        // by 1 3: 2 with 14; by 0 1 3: 3 with 13; by 1 2 3: 22 with 9
        int[] byKnees = {0, 1, 0};
        for (int less = 0; less < 3; less++) {
            StairsInSteps close = Tell.with("1,5,1@0;1,9,1@0;1,9,20@0;1,9,1@0");
            close.pilgrim(14 - less, 99, 2, 0);
            Due.is("would(0, 1) of KNEES " + (14 - less), close.would(0, 1), byKnees[less]);
            Due.is("would(1, 1) of KNEES " + (14 - less), close.would(1, 1), 1);
            Due.is("would(2, 20) of KNEES " + (14 - less), close.would(2, 20), less == 2 ? 20 : 0);
            Due.is("would(3, 1) of KNEES " + (14 - less), close.would(3, 1), 1);
            close.pilgrim(14 - less, 3, 2, 0);
            Due.is("toll(2) of a PURSE of 3 and KNEES " + (14 - less), close.toll(2), less == 2 ? 1 : 20);
        }
        StairsInSteps y = Tell.with("1,9,3@0;1,9,3@1;1,9,3@2");
        y.pilgrim(120, 999, 1, 4);
        y.feud(0, 1, true);
        Tell.law(y, 0, "a+x*10+l+j*50");
        Due.is("from the ground", y.would(0, 7), 7 + 4);
        Due.is("in FEUD", y.would(1, 7), 7 + 10 + 4);
        Due.is("not in FEUD", y.would(2, 7), 7 + 4);
        StairsInSteps z = Tell.with("1,9,3@0;1,9,3@1;1,9,3@2");
        z.pilgrim(120, 999, 2, 0);
        z.vow(0, 2);
        z.feud(0, 1, true);
        Tell.law(z, 0, "a+j*9");
        Tell.law(z, 1, "a+j*20+x*7");
        Due.is("without a leap", z.would(0, 7), 7);
        Due.is("leapt over, in FEUD", z.would(1, 7), 7 + 20 + 7);
        Due.is("with a leap", z.would(2, 7), 7 + 9);
        // to tread 0 costs as much as to leap over it, and is as hard: 12 with 7
        StairsInSteps even = Tell.with("1,4,0@0;1,9,0@1");
        even.pilgrim(60, 99, 2, 0);
        Tell.law(even, 0, "a+5-j*2");
        Tell.law(even, 1, "a+7");
        Due.is("the fewest MOVES", even.would(0, 2), 2 + 7);
        Tell.law(even, 1, "a+8");
        Due.is("the least COST", even.would(0, 2), 2 + 5);
        Twins.refused("it tells no ROW", Twins.rich().would(1, 3), t -> t.would(1, 3));
        Due.sentence(34, "NONE: others");
        for (int s : NO_STEP) {
            Twins.refused("would(" + s + ", 0)", -1, t -> t.would(s, 0));
        }
        int[] others = {-1, 21, Integer.MIN_VALUE, Integer.MAX_VALUE};
        for (int v : others) {
            Twins.refused("would(0, " + v + ")", -1, t -> t.would(0, v));
        }
        Twins.refused("no STEPS", -1, PriceBoundsTest::noSteps, t -> t.would(0, 0));
        Due.sentence(34, "Nothing changes");
        for (int s = 0; s < 4; s++) {
            int step = s;
            Twins.asks("would(" + s + ", 20)", t -> t.would(step, 20));
            Twins.asks("would(" + s + ", 0)", t -> t.would(step, 0));
        }
    }

    private static void best() {
        Due.sentence(35, "The ASKS (0 .. 20) of a STEP for which that is the most; of equal ones the least: it; the ROW: that");
        StairsInSteps x = Tell.with("1,9,3@0;1,9,3@1;1,9,3@2");
        Due.is("nobody", x.best(0), 0);
        Due.row(x, 0);
        x.pilgrim(60, 99, 1, 0);
        Due.is("the most that can be asked", x.best(1), 20);
        Due.row(x, 20);
        x.pilgrim(60, 16, 1, 0);
        // both pay up to 10: 20; one alone 20 for 20
        Due.is("20 for 10 and for 20", x.best(0), 10);
        Due.row(x, 20);
        Tell.law(x, 0, "7-a*0");
        Due.is("all alike", x.best(2), 0);
        Due.row(x, 7);
        Tell.law(x, 0, "20-a");
        Due.is("0 is the most", x.best(0), 0);
        Due.row(x, 20);
        StairsInSteps y = Tell.with("1,9,3@0;1,9,3@1w");
        y.pilgrim(60, 5, 1, 0);
        Due.is("5 of 5", y.best(0), 5);
        Due.row(y, 5);
        StairsInSteps z = Tell.with("1,9,3@0;1,9,3@1w");
        z.pilgrim(60, 1, 1, 0);
        Due.is("1 of 1", z.best(0), 1);
        Due.row(z, 1);
        dueByKnees((t, step) -> t.best(step), 20, 0);
        Due.is("a WIDOW's is paid nothing", y.best(1), 0);
        Due.row(y, 0);
        Due.sentence(35, "NONE: none such");
        for (int s : NO_STEP) {
            Twins.refused("best(" + s + ")", -1, t -> t.best(s));
        }
        Twins.refused("no STEPS", -1, PriceBoundsTest::noSteps, t -> t.best(0));
        Due.sentence(35, "Nothing changes");
        for (int s = 0; s < 4; s++) {
            int step = s;
            Twins.asks("best(" + s + ")", t -> t.best(step));
        }
    }

    /** Two steps that underbid one another by a copper: who goes by the one does not go by the other. */
    private static StairsInSteps rivals() {
        StairsInSteps x = Tell.with("1,9,20@0;1,9,20@1;1,9,0@2");
        x.pilgrim(60, 999, 2, 0);
        return x;
    }

    private static void dueAsks(StairsInSteps x, int... due) {
        for (int i = 0; i < due.length; i++) {
            Due.is("ASKS of STEP " + i, x.step(i, 2), due[i]);
        }
    }

    private static void market() {
        Due.sentence(36, "STEP by STEP from the lowest on, n rounds (1 .. 3) at most, each asks as best() tells, as the others ask then");
        // 0 is taken while it asks no more than 1; 1 has to ask less
        StairsInSteps x = rivals();
        Due.is("market(1)", x.market(1), 1);
        dueAsks(x, 20, 19, 20);
        Due.row(x, 0, 59);
        x = rivals();
        Due.is("market(2)", x.market(2), 2);
        dueAsks(x, 19, 18, 20);
        Due.row(x, 0, 57);
        x = rivals();
        Due.is("market(3)", x.market(3), 3);
        dueAsks(x, 18, 17, 20);
        Due.row(x, 0, 55);
        Due.is("and on", x.market(3), 3);
        dueAsks(x, 15, 14, 20);
        Due.sentence(36, "(it stays as it is, if that is paid as well): how many rounds changed something; it is done so");
        StairsInSteps y = Tell.with("1,9,5@0w;1,9,0@0");
        y.pilgrim(60, 10, 1, 0);
        Due.is("a WIDOW's stays", y.market(3), 1);
        dueAsks(y, 5, 10);
        StairsInSteps z = Tell.with("1,9,7@0*24");
        Due.is("nobody", z.market(3), 0);
        Due.row(z, 1, 168);
        StairsInSteps v = Tell.with("1,9,20@0;1,9,3@1;1,9,3@2");
        v.pilgrim(60, 99, 1, 0);
        v.pilgrim(60, 16, 1, 0);
        // 20 for 20 as for 10: it stays; 1 and 2 go up
        Due.is("as well paid", v.best(0), 10);
        v.market(1);
        Due.is("it stays", v.step(0, 2), 20);
        Due.sentence(36, "the ROW: 1 if the last round that was gone through changed nothing (else 0), the sum of ASKS");
        StairsInSteps w = Tell.with("1,9,0@0*2");
        w.pilgrim(60, 10, 1, 0);
        Due.is("the last one changed something", w.market(1), 1);
        Due.row(w, 0, 10);
        dueAsks(w, 10, 0);
        Due.is("nothing", w.market(1), 0);
        Due.row(w, 1, 10);
        w.set(0, 0, 2);
        Due.is("the second changed nothing", w.market(2), 1);
        Due.row(w, 1, 10);
        w.set(0, 0, 2);
        Due.is("a third is not gone through", w.market(3), 1);
        Due.row(w, 1, 10);
    }

    private static void marketOthers() {
        Due.sentence(36, "NONE: others, no STEPS");
        int[] others = {0, 4, -1, Integer.MIN_VALUE, Integer.MAX_VALUE};
        for (int n : others) {
            Twins.refused("market(" + n + ")", -1, t -> t.market(n));
        }
        Twins.refused("no STEPS", -1, PriceBoundsTest::noSteps, t -> t.market(1));
    }
}
