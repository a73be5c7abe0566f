/** Promises 37 to 42, sentence by sentence: parts. */
public final class PartsBoundsTest {
    private static final int[] NO_STEP = {-1, 4, 24, 1000, Integer.MIN_VALUE, Integer.MAX_VALUE};
    private static final int[] NO_FAMILY = {-1, 8, 1000, Integer.MIN_VALUE, Integer.MAX_VALUE};

    public static void main(String[] args) {
        parts();
        sells();
        sellsRefused();
        dies();
        diesRefused();
        undo();
        rail();
        railOthers();
        rules();
        rulesOthers();
        Due.finish(37, 42);
    }

    private static StairsInSteps noSteps() {
        StairsInSteps x = new StairsInSteps();
        x.pilgrim(60, 30, 2, 0);
        x.all();
        return x;
    }

    private static void dueParts(StairsInSteps x, int step, int... due) {
        for (int family = 0; family < 8; family++) {
            Due.is("parts(" + step + ", " + family + ")", x.parts(step, family), due[family]);
        }
    }

    private static void parts() {
        Due.sentence(37, "PARTS a FAMILY has of a STEP");
        StairsInSteps x = Tell.with("1,9,3@0*23;1,9,3@7");
        dueParts(x, 0, 720, 0, 0, 0, 0, 0, 0, 0);
        dueParts(x, 22, 720, 0, 0, 0, 0, 0, 0, 0);
        dueParts(x, 23, 0, 0, 0, 0, 0, 0, 0, 720);
        Due.sentence(37, "NONE: none such");
        for (int s : NO_STEP) {
            Twins.refused("parts(" + s + ", 0)", -1, y -> y.parts(s, 0));
        }
        for (int f : NO_FAMILY) {
            Twins.refused("parts(0, " + f + ")", -1, y -> y.parts(0, f));
        }
        Twins.refused("no STEPS", -1, PartsBoundsTest::noSteps, y -> y.parts(0, 0));
    }

    private static void sells() {
        Due.sentence(38, "a FAMILY sells up by low (1 .. 9 each, up not above low) of its PARTS of a STEP (cut) to another one: how many PARTS");
        for (int low = 1; low <= 9; low++) {
            for (int up = 1; up <= low; up++) {
                StairsInSteps x = Tell.with("1,9,3@0*2");
                int due = 720 * up / low;
                Due.is("sells " + up + " by " + low, x.sells(1, 0, 7, up, low), due);
                dueParts(x, 1, 720 - due, 0, 0, 0, 0, 0, 0, due);
                dueParts(x, 0, 720, 0, 0, 0, 0, 0, 0, 0);
                Due.is("a SALE", x.count(3), 1);
            }
        }
        StairsInSteps x = Tell.with("1,9,3@0*2");
        x.sells(0, 0, 1, 1, 7);
        dueParts(x, 0, 618, 102, 0, 0, 0, 0, 0, 0);
        Due.is("of what it has: 102 by 9, cut", x.sells(0, 1, 2, 1, 9), 11);
        Due.is("11 by 9, cut", x.sells(0, 2, 3, 1, 9), 1);
        dueParts(x, 0, 618, 91, 10, 1, 0, 0, 0, 0);
        Due.is("one of one", x.sells(0, 3, 4, 9, 9), 1);
        dueParts(x, 0, 618, 91, 10, 0, 1, 0, 0, 0);
    }

    private static StairsInSteps crumbs() {
        StairsInSteps x = Twins.rich();
        x.sells(3, 0, 1, 1, 9);
        x.sells(3, 1, 2, 1, 9);
        x.sells(3, 2, 4, 1, 8);
        return x;
    }

    private static void sellsRefused() {
        Due.sentence(38, "Refused: others, like ones, none come of it");
        int[][] others = {
            {0, 8}, {-1, 8}, {1, 10}, {10, 10}, {9, 10}, {3, 2}, {9, 8}, {1, 0}, {0, 0}, {0, 1}, {-2, -1}, {-1, -1}, {1, -1}, {-1, 1},
            {Integer.MIN_VALUE, Integer.MIN_VALUE}, {Integer.MAX_VALUE, Integer.MAX_VALUE}, {1, Integer.MIN_VALUE}, {1, Integer.MAX_VALUE},
            {Integer.MIN_VALUE, 9}, {Integer.MAX_VALUE, 9},
        };
        for (int[] one : others) {
            Twins.refused("sells " + one[0] + " by " + one[1], -1, y -> y.sells(0, 0, 1, one[0], one[1]));
        }
        for (int s : NO_STEP) {
            Twins.refused("sells of STEP " + s, -1, y -> y.sells(s, 0, 1, 1, 2));
        }
        for (int f : NO_FAMILY) {
            Twins.refused("FAMILY " + f + " sells", -1, y -> y.sells(0, f, 1, 1, 2));
            Twins.refused("sells to FAMILY " + f, -1, y -> y.sells(0, 0, f, 1, 2));
        }
        Twins.refused("like ones", -1, y -> y.sells(0, 0, 0, 1, 2));
        Twins.refused("it has nothing", -1, y -> y.sells(0, 7, 0, 1, 1));
        // 720, 80, 8, 1
        Due.is("one", crumbs().parts(3, 4), 1);
        Twins.refused("8 by 9 of one", -1, PartsBoundsTest::crumbs, y -> y.sells(3, 4, 0, 8, 9));
        Due.is("9 by 9 of one", crumbs().sells(3, 4, 0, 9, 9), 1);
        Twins.refused("no STEPS", -1, PartsBoundsTest::noSteps, y -> y.sells(0, 0, 1, 1, 1));
    }

    private static void dies() {
        Due.sentence(39, "of each STEP its PARTS come in even parts to heirs (bits of other FAMILIES, 1 or more), "
            + "what is left one by one to the first ones: PARTS that changed hands (a SALE, if there are some)");
        StairsInSteps x = Tell.with("1,9,3@0;1,9,3@1;1,9,3@0");
        Due.is("seven heirs", x.dies(0, 254), 1440);
        // 720 by 7 is 102, 6 are left
        dueParts(x, 0, 0, 103, 103, 103, 103, 103, 103, 102);
        dueParts(x, 1, 0, 720, 0, 0, 0, 0, 0, 0);
        dueParts(x, 2, 0, 103, 103, 103, 103, 103, 103, 102);
        Due.is("one SALE", x.count(3), 1);
        Due.is("two heirs of 103 and 720", x.dies(1, 1 + 128), 103 + 720 + 103);
        dueParts(x, 0, 52, 0, 103, 103, 103, 103, 103, 153);
        dueParts(x, 1, 360, 0, 0, 0, 0, 0, 0, 360);
        Due.is("MAIN", x.step(0, 4), 7);
        Due.is("of equal ones the first is MAIN", x.step(1, 4), 0);
        Due.is("it has nothing", x.dies(1, 255 - 2), 0);
        Due.is("no SALE", x.count(3), 2);
        Due.is("one heir", x.dies(7, 64), 153 + 360 + 153);
        Due.is("no STEPS", noSteps().dies(0, 2), 0);
        StairsInSteps one = crumbs();
        int sales = one.count(3);
        Due.is("one PART to FAMILY 0", one.dies(4, 1), 1);
        Due.is("a SALE", one.count(3), sales + 1);
        Due.is("it has one more", one.parts(3, 0), 641);
        StairsInSteps y = Tell.with("1,9,3@7*24");
        Due.is("all of 24", y.dies(7, 127), 17280);
        dueParts(y, 23, 103, 103, 103, 103, 103, 103, 102, 0);
        Due.is("undone at once", y.undo(), 0);
        dueParts(y, 23, 0, 0, 0, 0, 0, 0, 0, 720);
        // fewer PARTS than heirs
        StairsInSteps z = Tell.with("1,9,3@0*2");
        z.sells(0, 0, 1, 1, 9);
        z.sells(0, 1, 2, 1, 9);
        z.sells(0, 2, 3, 1, 4);
        dueParts(z, 0, 640, 72, 6, 2, 0, 0, 0, 0);
        Due.is("2 to three heirs", z.dies(3, 16 + 32 + 64), 2);
        dueParts(z, 0, 640, 72, 6, 0, 1, 1, 0, 0);
    }

    private static void diesRefused() {
        Due.sentence(39, "Refused: others");
        for (int f : NO_FAMILY) {
            Twins.refused("dies(" + f + ", 2)", -1, y -> y.dies(f, 2));
        }
        int[] others = {0, -1, 256, 257, 258, Integer.MIN_VALUE, Integer.MIN_VALUE + 2, Integer.MAX_VALUE};
        for (int heirs : others) {
            Twins.refused("dies(0, " + heirs + ")", -1, y -> y.dies(0, heirs));
        }
        for (int f = 0; f < 8; f++) {
            int family = f;
            Twins.refused("its own heir alone", -1, y -> y.dies(family, 1 << family));
            Twins.refused("its own heir, too", -1, y -> y.dies(family, 255));
        }
        Twins.refused("it has nothing, and its own heir", -1, y -> y.dies(7, 128 + 1));
        Due.is("all others", Twins.rich().dies(7, 127), 0);
    }

    private static void undo() {
        Due.sentence(40, "The latest SALE (of at most 8 that are kept, the latest ones) is undone (PARTS are as they were ahead of it): "
            + "how many are left to be undone");
        for (int many = 1; many <= 18; many++) {
            StairsInSteps x = Tell.with("1,9,3@0*2");
            int[] left = new int[many];
            for (int i = 0; i < many; i++) {
                left[i] = x.parts(0, 0);
                Due.is("sells", x.sells(0, 0, 1, 1, 9) > 0, true);
                Due.is("that can be undone", x.count(3), Math.min(8, i + 1));
            }
            for (int i = many - 1; i >= 0 && i >= many - 8; i--) {
                Due.is("undo", x.undo(), Math.min(many, 8) - (many - i));
                Due.is("ahead of it", x.parts(0, 0), left[i]);
                Due.is("the buyer's", x.parts(0, 1), 720 - left[i]);
            }
            Due.is("no more", x.undo(), -1);
            Due.is("of 8 the ninth stays", x.parts(0, 0), left[Math.max(0, many - 8)]);
            Due.is("and anew", x.sells(1, 0, 1, 1, 1), 720);
            Due.is("undo", x.undo(), 0);
            Due.is("ahead of it", x.parts(1, 0), 720);
        }
        StairsInSteps y = Tell.with("1,9,3@0*2");
        y.sells(0, 0, 1, 1, 2);
        y.dies(0, 4 + 8);
        y.sells(1, 2, 5, 1, 1);
        Due.is("the latest", y.undo(), 2);
        dueParts(y, 1, 0, 0, 360, 360, 0, 0, 0, 0);
        Due.is("dies, too", y.undo(), 1);
        dueParts(y, 0, 360, 360, 0, 0, 0, 0, 0, 0);
        dueParts(y, 1, 720, 0, 0, 0, 0, 0, 0, 0);
        y.dies(7, 1);
        Due.is("no SALE came of it", y.undo(), 0);
        Due.is("MAIN is as it was", y.step(0, 4), 0);
        Due.sentence(40, "Refused: none");
        Twins.refused("none", -1, () -> {
            StairsInSteps x = Twins.rich();
            x.undo();
            x.undo();
            return x;
        }, x -> x.undo());
        Twins.refused("no STEPS", -1, PartsBoundsTest::noSteps, x -> x.undo());
        Twins.refused("forgotten by again()", -1, () -> {
            StairsInSteps x = Twins.rich();
            x.again(0);
            return x;
        }, x -> x.undo());
    }

    private static void rail() {
        Due.sentence(41, "n coppers (0 .. 9999) for a rail are divided among FAMILIES by PARTS of all STEPS, as a COPPER is "
            + "(by 720 times STEPS): the ROW: of each of the 8 FAMILIES. How many FAMILIES have some");
        StairsInSteps x = Tell.with("1,9,3@0;1,9,3@1*2");
        Due.is("0", x.rail(0), 0);
        Due.row(x, 0, 0, 0, 0, 0, 0, 0, 0);
        Due.is("1 to the greatest rest", x.rail(1), 1);
        Due.row(x, 0, 1, 0, 0, 0, 0, 0, 0);
        Due.is("2", x.rail(2), 2);
        Due.row(x, 1, 1, 0, 0, 0, 0, 0, 0);
        Due.is("10", x.rail(10), 2);
        Due.row(x, 3, 7, 0, 0, 0, 0, 0, 0);
        Due.is("9999", x.rail(9999), 2);
        Due.row(x, 3333, 6666, 0, 0, 0, 0, 0, 0);
        x.dies(1, 4 + 8);
        Due.is("of equal rests the first", x.rail(5), 3);
        Due.row(x, 2, 0, 2, 1, 0, 0, 0, 0);
        Due.is("of equal rests the first", x.rail(1), 1);
        Due.row(x, 1, 0, 0, 0, 0, 0, 0, 0);
        StairsInSteps y = Tell.with("1,9,3@7*24");
        Due.is("9999 times 17280", y.rail(9999), 1);
        Due.row(y, 0, 0, 0, 0, 0, 0, 0, 9999);
        y.dies(7, 127);
        // 103 of 720 to six, 102 to one: 9999 times 103 by 720 is 1430.41, times 102 is 1416.52
        Due.is("seven", y.rail(9999), 7);
        Due.row(y, 1431, 1431, 1430, 1430, 1430, 1430, 1417, 0);
        Due.is("six of 7", y.rail(6), 6);
        Due.row(y, 1, 1, 1, 1, 1, 1, 0, 0);
        Due.sentence(41, "Nothing changes");
        Twins.asks("rail", z -> z.rail(9999));
        Due.is("nothing is EARNED", y.count(4), 0);
    }

    private static void railOthers() {
        Due.sentence(41, "NONE: others, no STEPS");
        int[] others = {-1, 10000, Integer.MIN_VALUE, Integer.MAX_VALUE};
        for (int n : others) {
            Twins.refused("rail(" + n + ")", -1, y -> y.rail(n));
        }
        Twins.refused("no STEPS", -1, PartsBoundsTest::noSteps, y -> y.rail(0));
        Twins.refused("no STEPS", -1, PartsBoundsTest::noSteps, y -> y.rail(7));
    }

    private static void rules() {
        Due.sentence(42, "The fewest FAMILIES who together have more than half of PARTS of a STEP (what 0)");
        StairsInSteps first = Tell.with("1,9,3@0*2");
        Due.is("the first has all", first.rules(0, 0), 1);
        Due.row(first, 1);
        StairsInSteps x = Tell.with("1,9,3@5;1,9,3@7");
        Due.is("one has all", x.rules(0, 0), 1);
        Due.row(x, 32);
        Due.is("one has all", x.rules(0, 1), 1);
        Due.row(x, 128);
        x.sells(0, 5, 2, 1, 2);
        Due.is("half is not more than half", x.rules(0, 0), 2);
        Due.row(x, 4 + 32);
        x.sells(0, 5, 2, 1, 9);
        Due.is("400 of 720", x.rules(0, 0), 1);
        Due.row(x, 4);
        // all eight have 90
        StairsInSteps y = Tell.with("1,9,3@0*2");
        for (int family = 1; family < 8; family++) {
            y.sells(0, 0, family, 1, 9 - family);
        }
        dueParts(y, 0, 90, 90, 90, 90, 90, 90, 90, 90);
        Due.is("four are half, five are more", y.rules(0, 0), 5);
        Due.row(y, 31);
        Due.sentence(42, "are MAIN of more than half of all STEPS (1; step does not matter): how many");
        StairsInSteps z = Tell.with("1,9,3@3*2;1,9,3@6;1,9,3@7");
        Due.is("two of four are half", z.rules(1, 0), 2);
        Due.row(z, 8 + 64);
        int[] any = {-1, 3, 4, 99, Integer.MIN_VALUE, Integer.MAX_VALUE};
        for (int step : any) {
            Due.is("rules(1, " + step + ")", z.rules(1, step), 2);
        }
        z.sells(3, 7, 3, 1, 2);
        Due.is("of equal PARTS 3 is MAIN, the first", z.rules(1, 0), 1);
        Due.row(z, 8);
        StairsInSteps v = Tell.with("1,9,3@0*3;1,9,3@1*3;1,9,3@2*3;1,9,3@3*3;1,9,3@4*3;1,9,3@5*3;1,9,3@6*6");
        Due.is("24 of seven", v.rules(1, 0), 4);
        Due.row(v, 1 + 2 + 4 + 64);
        Due.sentence(42, "the ROW: they (bits): of as few the least");
        StairsInSteps w = Tell.with("1,9,3@0*2");
        w.sells(0, 0, 6, 1, 3);
        w.sells(0, 0, 7, 1, 2);
        dueParts(w, 0, 240, 0, 0, 0, 0, 0, 240, 240);
        Due.is("two of three", w.rules(0, 0), 2);
        Due.row(w, 1 + 64);
        Twins.asks("rules", t -> t.rules(0, 1));
        Twins.asks("rules", t -> t.rules(1, 1));
    }

    private static void rulesOthers() {
        Due.sentence(42, "NONE: others, no STEPS");
        int[] whats = {-1, 2, 1000, Integer.MIN_VALUE, Integer.MAX_VALUE};
        for (int what : whats) {
            Twins.refused("rules(" + what + ", 0)", -1, y -> y.rules(what, 0));
        }
        for (int s : NO_STEP) {
            Twins.refused("rules(0, " + s + ")", -1, y -> y.rules(0, s));
        }
        Twins.refused("no STEPS, 0", -1, PartsBoundsTest::noSteps, y -> y.rules(0, 0));
        Twins.refused("no STEPS, 1", -1, PartsBoundsTest::noSteps, y -> y.rules(1, 0));
    }
}
