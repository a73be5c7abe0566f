/** Promises 43 to 48, sentence by sentence: a feast, and what is kept. */
public final class FeastBoundsTest {
    public static void main(String[] args) {
        feast();
        feastOrder();
        feastRow();
        feastOthers();
        jam();
        keep();
        again();
        againRefused();
        count();
        row();
        Due.finish(43, 48);
    }

    private static StairsInSteps noSteps() {
        StairsInSteps x = new StairsInSteps();
        x.pilgrim(60, 30, 2, 0);
        x.all();
        return x;
    }

    private static StairsInSteps crowd(String stairs, int many, int leap) {
        StairsInSteps x = Tell.with(stairs);
        for (int i = 0; i < many; i++) {
            x.pilgrim(120, 999, leap, 0);
        }
        return x;
    }

    private static void feast() {
        Due.sentence(43, "all PILGRIMS who have a climb() go by it, at once, all from the ground");
        StairsInSteps x = crowd("10,9,0@0*3", 1, 1);
        Due.is("one alone", x.feast(1), 3);
        Due.row(x, 0, -1, 1);
        x.pilgrim(29, 0, 1, 0);
        Due.is("who has none stays", x.feast(1), 3);
        Due.row(x, 0, -1, 1);
        x.pilgrim(30, 0, 1, 0);
        x.tread(2, 0);
        Due.is("two, from the ground", x.feast(1), 4);
        Due.row(x, 1, 2, 1);
        Due.sentence(43, "on each STEP there is room for room of them (1 .. 6; the uppermost has room for all)");
        StairsInSteps y = crowd("1,9,0@0*2", 6, 1);
        Due.is("feast(1)", y.feast(1), 7);
        Due.row(y, 5, 5, 1);
        Due.is("feast(2)", y.feast(2), 4);
        Due.row(y, 2, 4, 2);
        Due.is("feast(3)", y.feast(3), 3);
        Due.row(y, 1, 3, 3);
        Due.is("feast(5)", y.feast(5), 3);
        Due.row(y, 1, 5, 5);
        Due.is("feast(6)", y.feast(6), 2);
        Due.row(y, 0, -1, 6);
        StairsInSteps z = crowd("1,9,5@0;1,9,0@0", 6, 2);
        Due.is("all leap up at once", z.feast(1), 1);
        Due.row(z, 0, -1, 0);
    }

    private static void feastOrder() {
        Due.sentence(43, "in order of how high they are (the highest first; of equal ones the first), each goes on by its next MOVE, "
            + "if there is room where it comes to (as it is then), else it waits");
        // minute 1: 0 to 0, 1 to 1, 2 waits; 2: 1 is up, 0 to 1, 2 waits; 3: 0 to 2, 2 to 1; 4: both are up
        StairsInSteps y = Tell.with("1,9,5@0;1,9,0@0;1,9,5@0;1,9,0@0");
        y.pilgrim(60, 99, 1, 0);
        y.pilgrim(60, 99, 2, 0);
        y.pilgrim(60, 99, 2, 0);
        Due.is("feast(1)", y.feast(1), 4);
        Due.row(y, 2, 2, 1);
        Due.is("feast(2)", y.feast(2), 4);
        Due.row(y, 0, -1, 2);
        // room that comes free in a minute is taken in that minute
        StairsInSteps z = Tell.with("1,9,0@0*3");
        z.pilgrim(3, 99, 1, 0);
        z.pilgrim(3, 99, 1, 0);
        Due.is("behind one another", z.feast(1), 4);
        Due.row(z, 1, 1, 1);
        Due.sentence(43, "The minutes till all are up");
        StairsInSteps v = crowd("5,9,0@0*24", 6, 1);
        Due.is("24 and 5", v.feast(1), 29);
        Due.is("24", v.feast(6), 24);
        Due.is("24 and 2", v.feast(2), 26);
        Due.row(v, 2, 4, 2);
    }

    private static void feastRow() {
        Due.sentence(43, "the ROW: the most minutes one waited, who (the first; NONE, if none did), "
            + "the most at any minute's end on a STEP but the uppermost");
        StairsInSteps x = crowd("1,9,0@0*2", 4, 1);
        Due.is("feast(2)", x.feast(2), 3);
        // 2 and 3 waited one minute each
        Due.row(x, 1, 2, 2);
        Due.is("feast(4)", x.feast(4), 2);
        Due.row(x, 0, -1, 4);
        StairsInSteps y = crowd("1,9,9@0;1,9,0@0;1,9,0@0", 3, 2);
        y.vow(0, 128);
        // all leap to 1 and go on to 2
        Due.is("feast(3)", y.feast(3), 2);
        Due.row(y, 0, -1, 3);
        Due.is("feast(2)", y.feast(2), 3);
        Due.row(y, 1, 2, 2);
        // 0 goes by 0 and 2, 1 by 1 and 2: it is higher and comes to 2 first
        StairsInSteps z = Tell.with("1,9,0@0;1,9,0@1;1,9,0@2;1,9,0@2");
        z.pilgrim(60, 99, 2, 0);
        z.pilgrim(60, 99, 2, 0);
        z.vow(0, 2);
        z.vow(1, 1);
        Due.is("the first one waits", z.feast(1), 4);
        Due.row(z, 1, 0, 1);
        // one feast leaves nothing for the next
        StairsInSteps v = crowd("1,9,0@0*2", 3, 1);
        Due.is("on two STEPS", v.feast(1), 4);
        Tell.stairs(v, "1,9,0@0*3");
        Due.is("on three STEPS", v.feast(1), 5);
        Due.row(v, 2, 2, 1);
        Due.sentence(43, "Nothing changes");
        Twins.asks("feast(1)", t -> t.feast(1));
        Twins.asks("feast(6)", t -> t.feast(6));
    }

    private static void feastOthers() {
        Due.sentence(43, "NONE: others, no STEPS");
        int[] others = {0, 7, -1, Integer.MIN_VALUE, Integer.MAX_VALUE};
        for (int room : others) {
            Twins.refused("feast(" + room + ")", -1, x -> x.feast(room));
        }
        Twins.refused("no STEPS", -1, FeastBoundsTest::noSteps, x -> x.feast(1));
        Due.sentence(43, "0: nobody goes");
        StairsInSteps x = Tell.with("10,9,0@0*3");
        x.lamps(0);
        Due.is("nobody is there", x.feast(1), 0);
        Due.row(x, 0, -1, 0);
        x.pilgrim(29, 0, 1, 0);
        Due.is("nobody has a climb()", x.feast(6), 0);
        Due.row(x, 0, -1, 0);
    }

    private static void jam() {
        Due.sentence(44, "The STEP at which, in feast() of room 1, PILGRIMS waited the most minutes to come to it (summed); "
            + "of equal ones the first: it; the ROW: how many");
        StairsInSteps x = crowd("1,9,0@0*3", 6, 1);
        Due.is("jam", x.jam(), 0);
        Due.row(x, 1 + 2 + 3 + 4 + 5);
        Due.is("and again", x.jam(), 0);
        Due.row(x, 1 + 2 + 3 + 4 + 5);
        StairsInSteps y = Tell.with("1,9,5@0;1,9,0@0;1,9,5@0;1,9,0@0");
        y.pilgrim(60, 99, 1, 0);
        y.pilgrim(60, 99, 2, 0);
        y.pilgrim(60, 99, 2, 0);
        Due.is("at 1", y.jam(), 1);
        Due.row(y, 2);
        // 0 and 1 go by 0, 2 and 3 by 1: one waits for 0, then for 1
        StairsInSteps z = Tell.with("1,9,0@0;1,9,0@1;1,9,0@2");
        z.pilgrim(60, 99, 2, 0);
        z.pilgrim(60, 99, 2, 0);
        z.pilgrim(60, 99, 2, 0);
        z.pilgrim(60, 99, 2, 0);
        z.vow(0, 2);
        z.vow(1, 2);
        z.vow(2, 1);
        z.vow(3, 1);
        Due.is("one minute at 0, one at 1: the first", z.jam(), 0);
        Due.row(z, 1);
        Twins.asks("jam", t -> t.jam());
        Due.sentence(44, "-2: nowhere");
        StairsInSteps v = Tell.with("1,9,5@0;1,9,0@0;1,9,5@0;1,9,0@0");
        v.lamps(0);
        Due.is("nobody is there", v.jam(), -2);
        v.pilgrim(60, 99, 1, 0);
        Due.is("one alone", v.jam(), -2);
        v.pilgrim(60, 99, 2, 0);
        Due.is("nobody waits", v.jam(), -2);
        Due.row(v, 0, 1, 2, 3);
        Due.is("at the uppermost nobody waits", crowd("1,9,5@0;1,9,0@0", 6, 2).jam(), -2);
        Due.is("no STEPS", noSteps().jam(), -2);
    }

    private static void keep() {
        Due.sentence(45, "are kept under a number 0 .. 1: true");
        StairsInSteps x = Tell.with("1,9,3@0*2");
        Due.is("keep(0)", x.keep(0), true);
        x.set(0, 0, 7);
        Due.is("keep(1)", x.keep(1), true);
        x.set(0, 0, 9);
        Due.is("again(0)", x.again(0), true);
        Due.is("as kept under 0", x.step(0, 2), 3);
        Due.is("again(1)", x.again(1), true);
        Due.is("as kept under 1", x.step(0, 2), 7);
        x.set(0, 0, 11);
        Due.is("keep(1) once more", x.keep(1), true);
        x.again(0);
        x.again(1);
        Due.is("the latest under 1", x.step(0, 2), 11);
        Due.is("no STEPS", noSteps().keep(0), true);
        // nothing else changes, SALES stay
        StairsInSteps y = Twins.rich();
        String before = Twins.picture(y);
        y = Twins.rich();
        y.keep(0);
        Due.is("all is as it was", Twins.picture(y).equals(before), true);
        Due.is("SALES stay", y.count(3), 2);
        Due.sentence(45, "Refused: others");
        int[] others = {-1, 2, Integer.MIN_VALUE, Integer.MAX_VALUE};
        for (int i : others) {
            Twins.refused("keep(" + i + ")", 0, z -> z.keep(i) ? 1 : 0);
        }
    }

    private static void again() {
        Due.sentence(45, "STATES, ASKS, PARTS, where PILGRIMS are, KNEES and PURSE left, EARNED");
        StairsInSteps x = Twins.rich();
        x.end(0);
        x.undo();
        x.undo();
        x.lamps(0);
        x.keep(0);
        String due = Twins.picture(x);
        x.wears(3);
        x.sheet(2, 4, 1, 4);
        x.sells(0, 0, 5, 1, 2);
        x.dies(2, 16);
        x.tread(0, 1);
        x.tread(1, 2);
        x.mends(3);
        x.rests(0, 30);
        Due.is("MAIN then", x.step(2, 4), 4);
        Due.is("again", x.again(0), true);
        x.lamps(0);
        String got = Twins.picture(x);
        Due.is("all is as kept:\n" + got + "\n" + due + "\n", got.equals(due), true);
        Due.is("MAIN, too", x.step(2, 4), 2);
        Due.sentence(46, "They are as they were kept under a number (PILGRIMS told since stay as they are; SALES are forgotten)");
        StairsInSteps y = Tell.with("1,9,3@0*3");
        y.pilgrim(60, 30, 1, 0);
        y.sells(0, 0, 1, 1, 2);
        y.keep(1);
        y.tread(0, 0);
        y.pilgrim(50, 40, 2, 5);
        y.tread(1, 1);
        y.vow(0, 9);
        y.feud(1, 2, true);
        Tell.law(y, 0, "a");
        y.sells(1, 0, 1, 1, 2);
        Due.is("two SALES", y.count(3), 2);
        int knees = y.of(1, 1);
        int purse = y.of(1, 2);
        y.lamps(1);
        Tell.text(y, "abc");
        Due.is("again", y.again(1), true);
        Due.is("SALES are forgotten", y.count(3), 0);
        Due.is("undo", y.undo(), -1);
        Due.is("the first one is as kept", y.of(0, 0), -1);
        Due.is("KNEES", y.of(0, 1), 60);
        Due.is("PURSE", y.of(0, 2), 30);
        Due.is("EARNED", y.count(4), 0);
        Due.is("PARTS", y.parts(1, 0), 720);
        Due.is("PARTS as sold ahead of it", y.parts(0, 0), 360);
        Due.is("the one told since stays", y.of(1, 0), 1);
        Due.is("its KNEES", y.of(1, 1), knees);
        Due.is("its PURSE", y.of(1, 2), purse);
        Due.is("VOWS are not kept", y.of(0, 5), 9);
        Due.is("nor FEUDS", y.count(5), 1);
        Due.is("nor LAWS", y.count(2), 1);
        Due.is("nor THE TEXT", y.count(7), 3);
        Due.row(y, 1);
        Due.is("again, again", y.again(1), true);
    }

    private static void againRefused() {
        Due.sentence(46, "Refused: nothing kept, other STAIRS were told since");
        Twins.refused("nothing kept under 1", 0, () -> {
            StairsInSteps x = Tell.with("1,9,3@0*2");
            x.keep(0);
            x.set(0, 0, 7);
            return x;
        }, x -> x.again(1) ? 1 : 0);
        Twins.refused("nothing kept under 0", 0, () -> {
            StairsInSteps x = Tell.with("1,9,3@0*2");
            x.keep(1);
            x.set(0, 0, 7);
            return x;
        }, x -> x.again(0) ? 1 : 0);
        for (int i = 0; i < 2; i++) {
            int number = i;
            Twins.refused("other STAIRS", 0, () -> {
                StairsInSteps x = Twins.rich();
                Tell.stairs(x, "1,9,3@0*2");
                return x;
            }, x -> x.again(number) ? 1 : 0);
            Twins.refused("other STAIRS that are alike", 0, () -> {
                StairsInSteps x = Twins.rich();
                Tell.stairs(x, "5,9,3@0;5,8,4@1w;6,7,5@2;4,9,2@0");
                return x;
            }, x -> x.again(number) ? 1 : 0);
            StairsInSteps wrong = Twins.rich();
            Tell.stairs(wrong, "1,9,3@0");
            Tell.stairs(wrong, "1,9,3@0*");
            Due.is("refused STAIRS are none", wrong.again(number), true);
            StairsInSteps anew = Twins.rich();
            Tell.stairs(anew, "1,9,3@0*2");
            anew.keep(number);
            Due.is("kept since", anew.again(number), true);
            Due.is("the other not", anew.again(1 - number), false);
        }
        int[] others = {-1, 2, Integer.MIN_VALUE, Integer.MAX_VALUE};
        for (int i : others) {
            Twins.refused("again(" + i + ")", 0, x -> x.again(i) ? 1 : 0);
        }
        StairsInSteps none = noSteps();
        none.keep(0);
        Due.is("kept without STEPS", none.again(0), true);
        Tell.stairs(none, "1,9,3@0*2");
        Due.is("STAIRS were told since", none.again(0), false);
    }

    private static void count() {
        Due.sentence(47, "What 0: STEPS, 1: PILGRIMS, 2: LAWS told (bits), 3: SALES that can be undone, 4: all that is EARNED, 5: FEUDS, "
            + "6: numbers of the ROW, 7: signs of THE TEXT");
        StairsInSteps x = Tell.with("5,9,3@0;5,8,3@1;5,9,3@2");
        x.pilgrim(60, 30, 2, 0);
        x.tread(0, 0);
        x.sells(0, 0, 1, 1, 2);
        x.feud(0, 1, true);
        x.feud(5, 1, true);
        Tell.law(x, 1, "3");
        x.rail(3);
        x.sign(0);
        int[] due = {3, 1, 2, 1, 3, 2, 8, 4};
        for (int what = 0; what < 8; what++) {
            Due.is("count(" + what + ")", x.count(what), due[what]);
        }
        x.mends(1);
        Due.is("EARNED less 5", x.count(4), -2);
        Due.sentence(47, "NONE for another what");
        int[] others = {-1, 8, Integer.MIN_VALUE, Integer.MAX_VALUE};
        for (int what : others) {
            Twins.refused("count(" + what + ")", -1, y -> y.count(what));
        }
    }

    private static void row() {
        Due.sentence(48, "Number i of the ROW");
        StairsInSteps x = Tell.with("5,9,0@0*24");
        x.pilgrim(120, 0, 1, 0);
        x.climb(0);
        Due.is("the first", x.row(0), 120);
        Due.is("the last", x.row(25), 23);
        Due.sentence(48, "NoSuchElementException: none such");
        Due.noSuch("row(26)", () -> x.row(26));
        Due.noSuch("row(-1)", () -> x.row(-1));
        Due.noSuch("row of the least", () -> x.row(Integer.MIN_VALUE));
        Due.noSuch("row of the greatest", () -> x.row(Integer.MAX_VALUE));
        x.lamps(23);
        Due.is("one number", x.row(0), 23);
        Due.noSuch("row(1)", () -> x.row(1));
        Due.noSuch("of a new one", () -> new StairsInSteps().row(0));
        Twins.refused("row(8)", 1, y -> Due.throwsNoSuch(() -> y.row(8)) ? 1 : 0);
        Twins.refused("row(-1)", 1, y -> Due.throwsNoSuch(() -> y.row(-1)) ? 1 : 0);
    }
}
