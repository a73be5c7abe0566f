/** Promises 11 to 18, sentence by sentence: pilgrims. */
public final class PilgrimBoundsTest {
    private static final int[] FAR_OFF = {-1000, 1000, Integer.MIN_VALUE, Integer.MAX_VALUE};

    public static void main(String[] args) {
        pilgrim();
        vow();
        of();
        costs();
        costsRefused();
        tread();
        treadRefused();
        rests();
        restsRefused();
        returns();
        earned();
        Due.finish(11, 18);
    }

    private static void pilgrim() {
        Due.sentence(11, "One more: its number");
        StairsInSteps x = new StairsInSteps();
        for (int i = 0; i < 6; i++) {
            Due.is("pilgrim", x.pilgrim(10 + i, 20 + i, 1 + i % 3, 30 + i), i);
            Due.is("how many", x.count(1), i + 1);
        }
        for (int i = 0; i < 6; i++) {
            int[] due = {-1, 10 + i, 20 + i, 1 + i % 3, 30 + i, 0, 10 + i, 20 + i};
            for (int what = 0; what < 8; what++) {
                Due.is("of(" + i + ", " + what + ")", x.of(i, what), due[what]);
            }
        }
        Due.sentence(11, "Refused: others, 6");
        int[][] others = {{0, 0, 1, 0}, {121, 0, 1, 0}, {1, -1, 1, 0}, {1, 1000, 1, 0}, {1, 0, 0, 0}, {1, 0, 4, 0}, {1, 0, 1, -1}, {1, 0, 1, 51}};
        for (int[] one : others) {
            Twins.refused("pilgrim", -1, y -> y.pilgrim(one[0], one[1], one[2], one[3]));
        }
        for (int v : FAR_OFF) {
            Twins.refused("pilgrim of KNEES " + v, -1, y -> y.pilgrim(v, 0, 1, 0));
            Twins.refused("pilgrim of PURSE " + v, -1, y -> y.pilgrim(1, v, 1, 0));
            Twins.refused("pilgrim of LEAP " + v, -1, y -> y.pilgrim(1, 0, v, 0));
            Twins.refused("pilgrim of LOAD " + v, -1, y -> y.pilgrim(1, 0, 1, v));
        }
        int[][] last = {{1, 0, 1, 0}, {120, 0, 1, 0}, {1, 999, 1, 0}, {1, 0, 3, 0}, {1, 0, 1, 50}, {120, 999, 3, 50}};
        for (int[] one : last) {
            StairsInSteps y = new StairsInSteps();
            Due.is("just within", y.pilgrim(one[0], one[1], one[2], one[3]), 0);
            int[] due = {-1, one[0], one[1], one[2], one[3], 0, one[0], one[1]};
            for (int what = 0; what < 8; what++) {
                Due.is("of", y.of(0, what), due[what]);
            }
        }
        Twins.refused("a seventh", -1, () -> {
            StairsInSteps y = Twins.rich();
            for (int i = 2; i < 6; i++) {
                y.pilgrim(9, 9, 1, 0);
            }
            return y;
        }, y -> y.pilgrim(9, 9, 1, 0));
    }

    private static void vow() {
        Due.sentence(12, "The VOW of one becomes these FAMILIES (0 .. 255): what it was");
        StairsInSteps x = new StairsInSteps();
        x.pilgrim(9, 9, 1, 0);
        x.pilgrim(9, 9, 1, 0);
        Due.is("at first none", x.vow(1, 255), 0);
        Due.is("all", x.vow(1, 0), 255);
        Due.is("none", x.vow(1, 128), 0);
        Due.is("so it is", x.of(1, 5), 128);
        Due.is("the other one's", x.of(0, 5), 0);
        Due.sentence(12, "Refused: others");
        int[] others = {-1, 256, Integer.MIN_VALUE, Integer.MAX_VALUE};
        for (int v : others) {
            Twins.refused("vow(1, " + v + ")", -1, y -> y.vow(1, v));
            Twins.refused("vow(" + v + ", 1)", -1, y -> y.vow(v, 1));
        }
        Twins.refused("vow(2, 1)", -1, y -> y.vow(2, 1));
        Due.is("of none", new StairsInSteps().vow(0, 0), -1);
    }

    private static void of() {
        Due.sentence(13, "Of one, what 0: where it is (-1: on the ground), 1: KNEES left, 2: PURSE left, 3: LEAP, 4: LOAD, 5: VOW, "
            + "6: KNEES as told, 7: PURSE as told");
        StairsInSteps x = Tell.with("5,9,3@0*4");
        x.pilgrim(50, 40, 2, 10);
        int[] first = {-1, 50, 40, 2, 10, 0, 50, 40};
        for (int what = 0; what < 8; what++) {
            Due.is("of(0, " + what + ")", x.of(0, what), first[what]);
        }
        x.vow(0, 6);
        x.tread(0, 1);
        // 10 times 20 by 10, and 5
        int[] then = {1, 25, 37, 2, 10, 6, 50, 40};
        for (int what = 0; what < 8; what++) {
            Due.is("of(0, " + what + ")", x.of(0, what), then[what]);
        }
        Due.sentence(13, "NoSuchElementException: none such, another what");
        Due.noSuch("of(0, 8)", () -> x.of(0, 8));
        Due.noSuch("of(0, -1)", () -> x.of(0, -1));
        Due.noSuch("of(1, 0)", () -> x.of(1, 0));
        Due.noSuch("of(-1, 0)", () -> x.of(-1, 0));
        Due.noSuch("of(6, 0)", () -> x.of(6, 0));
        for (int v : FAR_OFF) {
            Due.noSuch("of(0, " + v + ")", () -> x.of(0, v));
            Due.noSuch("of(" + v + ", 0)", () -> x.of(v, 0));
        }
        Twins.refused("of(2, 0)", 1, y -> Due.throwsNoSuch(() -> y.of(2, 0)) ? 1 : 0);
        Twins.refused("of(0, 8)", 1, y -> Due.throwsNoSuch(() -> y.of(0, 8)) ? 1 : 0);
    }

    private static void costs() {
        Due.sentence(14, "COST of a MOVE from where one is to a STEP; the ROW: its EFFORT, how many STEPS it leaps over");
        StairsInSteps x = Tell.with("5,9,1@0;7,4,2@0;3,0,4@0;4,9,8@0");
        x.pilgrim(120, 99, 3, 3);
        Tell.law(x, 1, "a*10");
        Due.is("to 0", x.costs(0, 0), 1);
        Due.row(x, 6, 0);
        Due.is("to 1", x.costs(0, 1), 2 + 10);
        Due.row(x, 15 + 5 + 5, 1);
        Due.is("to 2", x.costs(0, 2), 4 + 10 + 20);
        Due.row(x, 19 + 9 + 10, 2);
        x.tread(0, 0);
        Due.is("from 0 to 3", x.costs(0, 3), 8 + 20 + 40);
        Due.row(x, 18 + 10, 2);
        x.tread(0, 3);
        StairsInSteps y = Tell.with("30,0,20@0*3");
        y.pilgrim(1, 0, 3, 50);
        y.vow(0, 255);
        Due.is("whatever KNEES, PURSE and VOW are", y.costs(0, 2), 20);
        Due.row(y, 90 * 6 + 9 + 10, 2);
        Twins.asks("costs", z -> z.costs(0, 1));
    }

    private static void costsRefused() {
        Due.sentence(14, "-2: it is no MOVE of its (not above, too far)");
        Twins.refused("where it is", -2, x -> x.costs(0, 0));
        Twins.refused("below", -2, x -> x.costs(1, 0));
        Twins.refused("too far", -2, x -> x.costs(0, 3));
        Due.is("as far as can be", Twins.rich().costs(0, 2) >= 0, true);
        Due.sentence(14, "NONE: none such");
        Twins.refused("costs(0, 4)", -1, x -> x.costs(0, 4));
        Twins.refused("costs(0, -1)", -1, x -> x.costs(0, -1));
        Twins.refused("costs(2, 1)", -1, x -> x.costs(2, 1));
        Twins.refused("costs(-1, 1)", -1, x -> x.costs(-1, 1));
        for (int v : FAR_OFF) {
            Twins.refused("costs(0, " + v + ")", -1, x -> x.costs(0, v));
            Twins.refused("costs(" + v + ", 1)", -1, x -> x.costs(v, 1));
        }
        StairsInSteps x = Tell.with("1,9,1@0*2");
        x.pilgrim(9, 9, 1, 0);
        x.tread(0, 0);
        x.tread(0, 1);
        Due.is("at the uppermost nothing is above", x.costs(0, 2), -1);
        Due.is("at the uppermost", x.costs(0, 1), -2);
    }

    private static void tread() {
        Due.sentence(15, "One goes by a MOVE: COST, that is led to the STEPS and divided");
        StairsInSteps x = Tell.with("5,9,7@0;5,9,8@1;5,9,20@2;5,9,0@3");
        x.pilgrim(60, 30, 3, 0);
        Tell.law(x, 1, "j*5");
        x.sells(0, 0, 4, 1, 3);
        x.sells(0, 0, 5, 1, 2);
        // STEP 0 is of 0, 4 and 5 by thirds: 5 coppers are 2, 2, 1
        Due.is("over 0 to 1", x.tread(0, 1), 8 + 5);
        Due.is("where", x.of(0, 0), 1);
        Due.is("KNEES", x.of(0, 1), 60 - 15);
        Due.is("PURSE", x.of(0, 2), 30 - 13);
        int[] due = {2, 8, 0, 0, 2, 1, 0, 0};
        for (int family = 0; family < 8; family++) {
            Due.is("earned(" + family + ")", x.earned(family), due[family]);
        }
        Due.is("over 2 to 3, which asks nothing", x.tread(0, 3), 5);
        Due.is("led to the STEP leapt over", x.earned(2), 5);
        Due.is("nothing to the one come to", x.earned(3), 0);
        Due.is("nor to others", x.count(4), 13 + 5);
        StairsInSteps y = Tell.with("5,9,0@0*2");
        y.pilgrim(60, 0, 1, 0);
        Due.is("for nothing", y.tread(0, 0), 0);
        Due.is("on it", y.of(0, 0), 0);
    }

    private static StairsInSteps steep() {
        StairsInSteps x = Tell.with("30,9,20@0*2;30,9,20@1");
        x.pilgrim(30, 20, 1, 0);
        x.pilgrim(29, 20, 1, 0);
        x.pilgrim(30, 19, 1, 0);
        x.pilgrim(29, 19, 1, 0);
        x.rail(5);
        return x;
    }

    private static void treadRefused() {
        Due.sentence(15, "-2: as costs()");
        Twins.refused("where it is", -2, x -> x.tread(0, 0));
        Twins.refused("below", -2, x -> x.tread(1, 0));
        Twins.refused("too far", -2, x -> x.tread(0, 3));
        Due.sentence(15, "-3: its VOW, -4: KNEES, -5: PURSE do not let it (these in order)");
        Due.is("just enough", steep().tread(0, 0), 20);
        Twins.refused("VOW, KNEES, PURSE", -3, () -> {
            StairsInSteps x = steep();
            x.vow(3, 1);
            return x;
        }, x -> x.tread(3, 0));
        Twins.refused("VOW alone", -3, () -> {
            StairsInSteps x = steep();
            x.vow(0, 1);
            return x;
        }, x -> x.tread(0, 0));
        Twins.refused("too far, and VOW", -2, () -> {
            StairsInSteps x = steep();
            x.vow(3, 1);
            return x;
        }, x -> x.tread(3, 1));
        Twins.refused("KNEES, PURSE", -4, PilgrimBoundsTest::steep, x -> x.tread(3, 0));
        Twins.refused("KNEES", -4, PilgrimBoundsTest::steep, x -> x.tread(1, 0));
        Twins.refused("PURSE", -5, PilgrimBoundsTest::steep, x -> x.tread(2, 0));
        StairsInSteps x = steep();
        x.vow(0, 254);
        x.tread(0, 0);
        Due.is("KNEES left", x.of(0, 1), 0);
        Due.is("PURSE left", x.of(0, 2), 0);
        Due.is("what is left counts, not what was told", x.tread(0, 1), -4);
        x.returns(0);
        Due.is("PURSE left counts", x.tread(0, 0), -5);
        Due.sentence(15, "NONE: none such");
        Twins.refused("tread(0, 4)", -1, y -> y.tread(0, 4));
        Twins.refused("tread(0, -1)", -1, y -> y.tread(0, -1));
        Twins.refused("tread(2, 1)", -1, y -> y.tread(2, 1));
        Twins.refused("tread(-1, 1)", -1, y -> y.tread(-1, 1));
        for (int v : FAR_OFF) {
            Twins.refused("tread(0, " + v + ")", -1, y -> y.tread(0, v));
            Twins.refused("tread(" + v + ", 1)", -1, y -> y.tread(v, 1));
        }
    }

    private static void rests() {
        Due.sentence(16, "KNEES are n more (1 .. 30; as told at most)");
        StairsInSteps x = Tell.with("20,9,0@0;20,9,0@1;5,9,0@0");
        x.pilgrim(50, 25, 1, 0);
        x.tread(0, 0);
        x.tread(0, 1);
        Due.is("10 left", x.of(0, 1), 10);
        Due.is("1", x.rests(0, 1), 0);
        Due.is("11", x.of(0, 1), 11);
        Due.is("30", x.rests(0, 30), 0);
        Due.is("41", x.of(0, 1), 41);
        Due.is("8", x.rests(0, 8), 0);
        Due.is("49", x.of(0, 1), 49);
        Due.is("1", x.rests(0, 1), 0);
        Due.is("50", x.of(0, 1), 50);
        Due.is("30", x.rests(0, 30), 0);
        Due.is("as told at most", x.of(0, 1), 50);
        Due.is("where it was", x.of(0, 0), 1);
        Due.sentence(16, "for what LAW 0 is of its STEP as if it came to it from itself, without a leap (on the ground 0), "
            + "that is led to it and divided: what was paid");
        StairsInSteps y = Tell.with("20,9,7@0;20,9,7@1;20,9,7@1");
        y.pilgrim(100, 60, 2, 3);
        Tell.law(y, 0, "a+j*30+x*40+l");
        Tell.law(y, 1, "99");
        y.feud(0, 1, true);
        Due.is("on the ground", y.rests(0, 1), 0);
        Due.is("tread", y.tread(0, 0), 10);
        y.sells(0, 0, 5, 1, 2);
        Due.is("neither x nor j", y.rests(0, 30), 10);
        Due.is("PURSE", y.of(0, 2), 40);
        Due.is("led to it", y.earned(0), 10 + 5);
        Due.is("and divided", y.earned(5), 5);
        Due.is("once more", y.rests(0, 1), 10);
        StairsInSteps z = Tell.with("20,9,7@0w*2");
        z.pilgrim(100, 0, 1, 0);
        z.tread(0, 0);
        Due.is("a WIDOW's without a LAW", z.rests(0, 5), 0);
        Due.is("no STEPS, on the ground", restsOnTheGround(), 0);
    }

    private static int restsOnTheGround() {
        StairsInSteps x = new StairsInSteps();
        x.pilgrim(100, 0, 1, 0);
        return x.rests(0, 30);
    }

    private static StairsInSteps tired(int purse) {
        StairsInSteps x = Tell.with("20,9,7@0*2");
        x.pilgrim(50, purse, 1, 0);
        x.tread(0, 0);
        return x;
    }

    private static void restsRefused() {
        Due.sentence(16, "-5: PURSE");
        Due.is("7 of 7", tired(14).rests(0, 1), 7);
        Twins.refused("7 of 6", -5, () -> tired(13), x -> x.rests(0, 1));
        Twins.refused("even if it needs no rest", -5, () -> {
            StairsInSteps x = tired(13);
            x.returns(0);
            x.set(0, 0, 3);
            x.tread(0, 0);
            x.set(0, 0, 20);
            return x;
        }, x -> x.rests(0, 1));
        Due.sentence(16, "NONE: others");
        int[] others = {0, 31, -1, Integer.MIN_VALUE, Integer.MAX_VALUE};
        for (int v : others) {
            Twins.refused("rests(0, " + v + ")", -1, x -> x.rests(0, v));
            Twins.refused("of a PURSE too light, rests(0, " + v + ")", -1, () -> tired(13), x -> x.rests(0, v));
        }
        int[] none = {-1, 2, 6, 1000, Integer.MIN_VALUE, Integer.MAX_VALUE};
        for (int v : none) {
            Twins.refused("rests(" + v + ", 1)", -1, x -> x.rests(v, 1));
        }
    }

    private static void returns() {
        Due.sentence(17, "One turns back: it is on the ground, KNEES as told, PURSE as it is: where it was");
        StairsInSteps x = Tell.with("20,9,7@0;20,9,7@1;5,9,1@0");
        x.pilgrim(50, 25, 1, 0);
        x.pilgrim(50, 25, 1, 0);
        Due.is("from the ground", x.returns(0), -1);
        x.tread(0, 0);
        x.tread(1, 0);
        Due.is("from 0", x.returns(0), 0);
        x.tread(0, 0);
        Due.is("tread", x.tread(0, 1), 7);
        Due.is("from 1", x.returns(0), 1);
        Due.is("on the ground", x.of(0, 0), -1);
        Due.is("KNEES as told", x.of(0, 1), 50);
        Due.is("PURSE as it is", x.of(0, 2), 4);
        Due.is("the other one stays", x.of(1, 0), 0);
        Due.is("what was EARNED stays", x.count(4), 28);
        Due.sentence(17, "Refused: none such");
        int[] none = {-1, 2, 6, 1000, Integer.MIN_VALUE, Integer.MAX_VALUE};
        for (int v : none) {
            Twins.refused("returns(" + v + ")", -1, y -> y.returns(v));
        }
    }

    private static void earned() {
        Due.sentence(18, "What a FAMILY has EARNED; the ROW: PARTS of all STEPS it has");
        StairsInSteps x = Tell.with("1,9,7@0;1,0,4@7;1,9,1@0");
        x.pilgrim(50, 25, 1, 0);
        x.tread(0, 0);
        Due.is("0", x.earned(0), 7);
        Due.row(x, 1440);
        Due.is("7", x.earned(7), 0);
        Due.row(x, 720);
        Due.is("3", x.earned(3), 0);
        Due.row(x, 0);
        x.mends(1);
        Due.is("below 0", x.earned(7), -9);
        StairsInSteps y = Tell.with("1,9,7@0*24");
        Due.is("all of 24", y.earned(0), 0);
        Due.row(y, 17280);
        Due.sentence(18, "NONE: none such");
        int[] none = {-1, 8, 1000, Integer.MIN_VALUE, Integer.MAX_VALUE};
        for (int v : none) {
            Twins.refused("earned(" + v + ")", -1, z -> z.earned(v));
        }
        Twins.asks("earned(3)", z -> z.earned(3));
    }
}
