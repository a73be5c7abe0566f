/** Promises 19 to 26, sentence by sentence: climbs. */
public final class ClimbBoundsTest {
    private static final int[] NO_PILGRIM = {-1, 2, 6, 1000, Integer.MIN_VALUE, Integer.MAX_VALUE};
    private static final int[] NO_STEP = {-1, 4, 24, Integer.MIN_VALUE, Integer.MAX_VALUE};
    private static final int[] NO_COST = {-1, 1000, Integer.MIN_VALUE, Integer.MAX_VALUE};

    public static void main(String[] args) {
        climb();
        climbNone();
        knees();
        kneesNone();
        ways();
        waysOthers();
        trod();
        trodOthers();
        who();
        next();
        nextNone();
        bears();
        bearsNone();
        breaks();
        breaksNone();
        Due.finish(19, 26);
    }

    /** One pilgrim, no steps. */
    private static StairsInSteps noSteps() {
        StairsInSteps x = new StairsInSteps();
        x.pilgrim(60, 30, 2, 0);
        x.vow(0, 3);
        x.all();
        return x;
    }

    private static void climb() {
        Due.sentence(19, "The CLIMB that CAN be with the least COST");
        StairsInSteps x = Tell.with("2,9,5@0;2,9,1@1;2,9,1@1;2,9,3@2");
        x.pilgrim(60, 99, 2, 0);
        Due.is("by 1 and 3", x.climb(0), 4);
        Due.row(x, 8 + 10, 2, 1, 3);
        x.pilgrim(17, 99, 2, 0);
        Due.is("KNEES forbid two leaps", x.climb(1), 5);
        Due.row(x, 8 + 5, 3, 1, 2, 3);
        x.pilgrim(12, 99, 2, 0);
        Due.is("KNEES forbid all leaps", x.climb(2), 10);
        Due.row(x, 8, 4, 0, 1, 2, 3);
        x.pilgrim(60, 99, 3, 0);
        x.vow(3, 2);
        Due.is("1 and 2 are forsworn", x.climb(3), 8);
        Due.row(x, 2 + 6 + 10, 2, 0, 3);
        // to 1 by a leap: 1 with 7, by both: 2 with 6; from there by a leap: 1 with 7, by both: 21 with 2
        StairsInSteps close = Tell.with("1,5,1@0;1,9,1@0;1,9,20@0;1,9,1@0");
        close.pilgrim(14, 99, 2, 0);
        close.pilgrim(13, 99, 2, 0);
        close.pilgrim(12, 99, 2, 0);
        Due.is("two leaps", close.climb(0), 2);
        Due.row(close, 14, 2, 1, 3);
        Due.is("the upper leap", close.climb(1), 3);
        Due.row(close, 13, 3, 0, 1, 3);
        Due.is("the lower leap", close.climb(2), 22);
        Due.row(close, 9, 3, 1, 2, 3);
        Due.sentence(19, "of equal ones the least EFFORT, then the fewest MOVES, then the least row of STEPS: COST");
        StairsInSteps y = Tell.with("1,9,0@0*3");
        y.pilgrim(60, 0, 3, 0);
        Due.is("least EFFORT, though not the fewest MOVES", y.climb(0), 0);
        Due.row(y, 3, 3, 0, 1, 2);
        // to tread a STEP worn by 5 is as hard as to leap over it
        StairsInSteps z = Tell.with("1,4,0@0;1,9,0@0");
        z.pilgrim(60, 0, 2, 0);
        Due.is("fewest MOVES, though not the least row", z.climb(0), 0);
        Due.row(z, 7, 1, 1);
        StairsInSteps v = Tell.with("1,4,0@0;1,4,0@0;1,9,0@0");
        v.pilgrim(60, 0, 2, 0);
        Due.is("the least row", v.climb(0), 0);
        Due.row(v, 13, 2, 0, 2);
        StairsInSteps w = Tell.with("1,4,0@0*3;1,9,0@0;1,9,0@0");
        w.pilgrim(60, 0, 2, 0);
        // each of the lowest three costs 5 more, trodden or leapt over: 20 in all; 1 3 4 alone has three MOVES
        Due.is("three MOVES", w.climb(0), 0);
        Due.row(w, 20, 3, 1, 3, 4);
        Due.sentence(19, "the ROW: EFFORT, MOVES, the STEPS trodden");
        StairsInSteps most = Tell.with("5,9,0@0*24");
        most.pilgrim(120, 0, 1, 0);
        Due.is("24 MOVES", most.climb(0), 0);
        Due.is("26 numbers", most.count(6), 26);
        Due.is("EFFORT", most.row(0), 120);
        Due.is("MOVES", most.row(1), 24);
        for (int i = 0; i < 24; i++) {
            Due.is("STEP", most.row(2 + i), i);
        }
        StairsInSteps leaps = Tell.with("1,9,1@0*24");
        leaps.pilgrim(104, 8, 3, 0);
        Due.is("8 MOVES", leaps.climb(0), 8);
        Due.row(leaps, 24 + 16 * 5, 8, 2, 5, 8, 11, 14, 17, 20, 23);
        most.pilgrim(120, 0, 3, 0);
        most.sheet(2, 24, 1, 0);
        Due.is("a PURSE of 0", most.climb(1), -2);
        Due.is("the ROW stays", most.count(6), 26);
        Twins.asks("climb", t -> t.climb(0));
    }

    private static void climbNone() {
        Due.sentence(19, "-2: none");
        StairsInSteps x = Tell.with("10,9,5@0;10,9,5@1");
        x.pilgrim(20, 10, 1, 0);
        x.pilgrim(19, 10, 1, 0);
        x.pilgrim(20, 9, 1, 0);
        x.pilgrim(120, 999, 3, 0);
        x.vow(3, 2);
        x.lamps(0);
        Due.is("just enough", x.climb(0), 10);
        Due.row(x, 20, 2, 0, 1);
        Due.is("KNEES", x.climb(1), -2);
        Due.is("PURSE", x.climb(2), -2);
        Due.is("VOW", x.climb(3), -2);
        Due.row(x, 20, 2, 0, 1);
        Due.sentence(19, "NONE: none such, no STEPS");
        for (int v : NO_PILGRIM) {
            Twins.refused("climb(" + v + ")", -1, y -> y.climb(v));
        }
        Twins.refused("no STEPS", -1, ClimbBoundsTest::noSteps, y -> y.climb(0));
    }

    private static void knees() {
        Due.sentence(20, "The least EFFORT (at most 999)");
        StairsInSteps y = Tell.with("30,9,0@0*5;15,6,0@0;1,9,0@0");
        y.pilgrim(1, 0, 1, 50);
        Due.is("900 + 90 + 3 + 6", y.knees(0), 999);
        Due.row(y, 0);
        y.set(5, 1, 5);
        Due.is("1000 is more", y.knees(0), -2);
        Due.row(y, 0);
        StairsInSteps steep = Tell.with("30,0,0@0*24");
        steep.pilgrim(120, 999, 1, 50);
        Due.is("24 times 189", steep.knees(0), -2);
        Due.sentence(20, "of any CLIMB that breaks no VOW and COSTS PURSE at most, whatever KNEES are: it");
        StairsInSteps x = Tell.with("2,9,5@0;2,9,1@1;2,9,1@1;2,9,3@2");
        x.pilgrim(1, 10, 2, 0);
        x.pilgrim(1, 9, 2, 0);
        x.pilgrim(1, 4, 2, 0);
        Due.is("10 of 10", x.knees(0), 8);
        Due.row(x, 10);
        Due.is("10 of 9", x.knees(1), 13);
        Due.row(x, 5);
        Due.is("4 of 4", x.knees(2), 18);
        Due.row(x, 4);
        x.vow(0, 1);
        Due.is("without 0", x.knees(0), 13);
        Due.row(x, 5);
        StairsInSteps close = Tell.with("1,5,1@0;1,9,1@0");
        close.pilgrim(1, 2, 2, 0);
        close.pilgrim(1, 1, 2, 0);
        Due.is("one less, though it costs more", close.knees(0), 6);
        Due.row(close, 2);
        Due.is("a leap", close.knees(1), 7);
        Due.row(close, 1);
        Due.sentence(20, "the ROW: the least COST of those with so much");
        // by 0 and 2 or by 1 and 2 it is as hard, if 0 and 1 are both worn by 9
        StairsInSteps z = Tell.with("1,0,7@0;1,0,3@0;1,9,0@0");
        z.pilgrim(1, 99, 2, 0);
        Due.is("least", z.knees(0), 1 + 9 + 2 + 5);
        Due.row(z, 3);
        Twins.asks("knees", t -> t.knees(0));
    }

    private static void kneesNone() {
        Due.sentence(20, "-2: none");
        StairsInSteps x = Tell.with("2,9,5@0;2,9,1@1");
        x.pilgrim(1, 5, 1, 0);
        x.pilgrim(1, 6, 1, 0);
        x.lamps(0);
        Due.is("PURSE", x.knees(0), -2);
        x.vow(1, 1);
        Due.is("VOW", x.knees(1), -2);
        Due.row(x, 0, 1);
        x.vow(1, 0);
        Due.is("just enough", x.knees(1), 4);
        Due.sentence(20, "NONE likewise");
        for (int v : NO_PILGRIM) {
            Twins.refused("knees(" + v + ")", -1, y -> y.knees(v));
        }
        Twins.refused("no STEPS", -1, ClimbBoundsTest::noSteps, y -> y.knees(0));
    }

    /** All climbs of the first pilgrim cost just 999; the second one has a PURSE of 998. */
    private static StairsInSteps dear() {
        StairsInSteps x = Tell.with("1,9,0@0*10;1,9,9@0");
        Tell.law(x, 0, "(a=0)*99+a");
        x.pilgrim(11, 999, 1, 0);
        x.pilgrim(11, 998, 1, 0);
        return x;
    }

    private static void ways() {
        Due.sentence(21, "How many CLIMBS CAN be that COST just so much (0 .. 999)");
        StairsInSteps x = Tell.with("1,9,0@0*24");
        x.pilgrim(120, 0, 3, 0);
        Due.is("1 to 3 at a time", x.ways(0, 0), 1389537);
        Due.row(x, 1);
        x.pilgrim(120, 0, 2, 0);
        Due.is("1 or 2 at a time", x.ways(1, 0), 75025);
        x.pilgrim(120, 0, 1, 0);
        Due.is("one by one", x.ways(2, 0), 1);
        x.pilgrim(23, 0, 3, 0);
        Due.is("KNEES", x.ways(3, 0), 0);
        Due.row(x, 0);
        x.pilgrim(29, 999, 3, 0);
        // 24 and 5 for each STEP leapt over: one of 23 at most
        Due.is("one leap at most", x.ways(4, 0), 1 + 23);
        Due.row(x, 1);
        Due.is("1", x.ways(4, 1), 0);
        Due.is("999", x.ways(4, 999), 0);
        StairsInSteps y = dear();
        Due.is("999 of 999", y.ways(0, 999), 1);
        Due.row(y, 1);
        Due.is("998 of 999", y.ways(0, 998), 0);
        Due.row(y, 0);
        Due.is("999 of 998", y.ways(1, 999), 0);
        StairsInSteps late = Tell.with("1,9,9@0;1,9,0@0*10");
        Tell.law(late, 0, "(a=0)*99+a");
        late.pilgrim(11, 999, 1, 0);
        Due.is("999, of which 990 come last", late.ways(0, 999), 1);
        int[] prices = {1, 31, 32, 33, 62, 63, 64, 65, 66, 98, 99};
        for (int price : prices) {
            StairsInSteps alike = Tell.with("1,9,0@0*10");
            Tell.law(alike, 0, "" + price);
            Tell.law(alike, 1, "" + price);
            alike.pilgrim(120, 999, 3, 0);
            // trodden or leapt over, each costs as much
            Due.is("10 times " + price, alike.ways(0, 10 * price), 274);
            Due.row(alike, 1);
            Due.is("1 less", alike.ways(0, 10 * price - 1), 0);
            Due.is("1 more", alike.ways(0, 10 * price + 1), 0);
            Tell.law(alike, 1, "");
            // what is leapt over is free: as many MOVES as are paid for
            Due.is("10 MOVES", alike.ways(0, 10 * price), 1);
            Due.is("9 MOVES", alike.ways(0, 9 * price), 9);
            Due.is("3 MOVES are too few", alike.ways(0, 3 * price), 0);
        }
        Due.sentence(21, "the ROW: of how many of them the EFFORT is the least");
        StairsInSteps z = Tell.with("1,9,1@0;1,4,1@0;1,9,1@0;1,9,1@0");
        z.pilgrim(20, 9, 2, 0);
        // of three: 0 1 3 with 14, 0 2 3 with 9, 1 2 3 with 14
        Due.is("three", z.ways(0, 3), 3);
        Due.row(z, 1);
        z.set(1, 1, 9);
        Due.is("three", z.ways(0, 3), 3);
        Due.row(z, 3);
        z.set(2, 1, 4);
        // 0 1 3 with 9, the others with 14
        Due.is("three", z.ways(0, 3), 3);
        Due.row(z, 1);
        z.set(1, 1, 0);
        z.set(2, 1, 0);
        z.set(0, 1, 0);
        // the two leaps and 1: 4 + 10 + 9; those of three: 27 - 9 + 4 + 5
        Due.is("KNEES forbid all", z.ways(0, 3), 0);
        Due.row(z, 0);
        Twins.asks("ways", t -> t.ways(0, 12));
    }

    private static void waysOthers() {
        Due.sentence(21, "NONE: others");
        for (int v : NO_COST) {
            Twins.refused("ways(0, " + v + ")", -1, x -> x.ways(0, v));
        }
        for (int v : NO_PILGRIM) {
            Twins.refused("ways(" + v + ", 0)", -1, x -> x.ways(v, 0));
        }
        // no STEPS are not among the others: there is no CLIMB
        StairsInSteps x = noSteps();
        Due.is("no STEPS", x.ways(0, 0), 0);
        Due.row(x, 0);
        Due.is("no STEPS, 999", x.ways(0, 999), 0);
    }

    private static void trod() {
        Due.sentence(22, "of CLIMBS that CAN be and COST just so much those that tread a STEP: the ROW: the share as a fraction. 0");
        StairsInSteps x = Tell.with("1,9,0@0*24");
        x.pilgrim(120, 0, 3, 0);
        Due.is("the uppermost", x.trod(0, 0, 23), 0);
        Due.row(x, 1, 1);
        // those of 23 STEPS by 1 to 3 at a time
        Due.is("the lowest", x.trod(0, 0, 0), 0);
        Due.row(x, 755476, 1389537);
        StairsInSteps y = Tell.with("1,9,1@0;1,4,1@0;1,9,1@0;1,9,1@0");
        y.pilgrim(20, 9, 2, 0);
        Due.is("two of three", y.trod(0, 3, 1), 0);
        Due.row(y, 2, 3);
        Due.is("one of one", y.trod(0, 4, 1), 0);
        Due.row(y, 1, 1);
        Due.is("none of one", y.trod(0, 2, 0), 0);
        Due.row(y, 0, 1);
        y.sells(2, 0, 1, 9, 9);
        y.vow(0, 2);
        Due.is("a forsworn one", y.trod(0, 3, 2), 0);
        Due.row(y, 0, 1);
        StairsInSteps z = dear();
        Due.is("999", z.trod(0, 999, 5), 0);
        Due.row(z, 1, 1);
        Twins.asks("trod", t -> t.trod(0, 12, 1));
    }

    private static void trodOthers() {
        Due.sentence(22, "-2: there are none");
        StairsInSteps x = dear();
        x.lamps(23);
        Due.is("998", x.trod(0, 998, 5), -2);
        Due.is("0", x.trod(0, 0, 5), -2);
        Due.is("PURSE", x.trod(1, 999, 5), -2);
        Due.row(x, 10);
        Due.sentence(22, "NONE: others");
        for (int v : NO_COST) {
            Twins.refused("trod(0, " + v + ", 0)", -1, y -> y.trod(0, v, 0));
        }
        for (int v : NO_PILGRIM) {
            Twins.refused("trod(" + v + ", 0, 0)", -1, y -> y.trod(v, 0, 0));
        }
        for (int v : NO_STEP) {
            Twins.refused("trod(0, 0, " + v + ")", -1, y -> y.trod(0, 0, v));
        }
        Twins.refused("no STEPS", -1, ClimbBoundsTest::noSteps, y -> y.trod(0, 0, 0));
    }

    private static void who() {
        Due.sentence(23, "PILGRIMS (bits) who, having spent just so much (0 .. 999), could have trodden a STEP in a CLIMB that CAN be");
        StairsInSteps x = Tell.with("1,9,2@0;1,9,4@0;1,9,1@0");
        Due.is("nobody", x.who(7, 1), 0);
        x.pilgrim(20, 9, 1, 0);
        x.pilgrim(20, 9, 2, 0);
        x.pilgrim(20, 4, 3, 0);
        // LEAP 1: 7; LEAP 2: 7, 5 (1 2), 3 (0 2); LEAP 3: 3 and 1 (2), for above 4 there is no PURSE
        Due.is("who(7, 1)", x.who(7, 1), 3);
        Due.is("who(3, 0)", x.who(3, 0), 6);
        Due.is("who(5, 1)", x.who(5, 1), 2);
        Due.is("who(5, 0)", x.who(5, 0), 0);
        Due.is("who(1, 2)", x.who(1, 2), 4);
        Due.is("who(0, 2)", x.who(0, 2), 0);
        x.pilgrim(20, 9, 1, 0);
        x.pilgrim(20, 9, 1, 0);
        x.pilgrim(20, 9, 1, 0);
        Due.is("the sixth one, too", x.who(7, 2), 1 + 2 + 8 + 16 + 32);
        StairsInSteps y = dear();
        Due.is("999", y.who(999, 10), 1);
        Due.is("998", y.who(998, 10), 0);
        StairsInSteps z = Tell.with("1,9,0@0*2");
        z.pilgrim(2, 0, 1, 0);
        z.pilgrim(1, 0, 1, 0);
        Due.is("0", z.who(0, 0), 1);
        Twins.asks("who", t -> t.who(12, 1));
        Twins.refused("it tells no ROW", Twins.rich().who(12, 1), t -> t.who(12, 1));
        Due.sentence(23, "NONE: others");
        for (int v : NO_COST) {
            Twins.refused("who(" + v + ", 0)", -1, t -> t.who(v, 0));
        }
        for (int v : NO_STEP) {
            Twins.refused("who(0, " + v + ")", -1, t -> t.who(0, v));
        }
        Twins.refused("no STEPS", -1, ClimbBoundsTest::noSteps, t -> t.who(0, 0));
    }

    private static void next() {
        Due.sentence(24, "The least COST above a told one (-1 .. 998) of any CLIMB that CAN be; the ROW: the least EFFORT of those");
        StairsInSteps x = Tell.with("1,9,2@0;1,9,4@0;1,9,1@0");
        x.pilgrim(20, 9, 2, 0);
        Due.is("next(0, -1)", x.next(0, -1), 3);
        Due.row(x, 8);
        Due.is("next(0, 2)", x.next(0, 2), 3);
        Due.is("next(0, 3)", x.next(0, 3), 5);
        Due.row(x, 8);
        Due.is("next(0, 5)", x.next(0, 5), 7);
        Due.row(x, 3);
        StairsInSteps y = Tell.with("1,9,0@0;1,0,0@0;1,9,0@0");
        y.pilgrim(99, 0, 2, 0);
        Due.is("0 is above -1", y.next(0, -1), 0);
        // 0 2 with 1 + 7, 1 2 with 16 + 1, 0 1 2 with 12
        Due.row(y, 8);
        StairsInSteps z = dear();
        Due.is("999 is above 998", z.next(0, 998), 999);
        Due.row(z, 11);
        Due.is("999 is above -1", z.next(0, -1), 999);
        Twins.asks("next", t -> t.next(0, -1));
    }

    private static void nextNone() {
        Due.sentence(24, "-2: none");
        StairsInSteps x = Tell.with("1,9,2@0;1,9,4@0;1,9,1@0");
        x.pilgrim(20, 9, 2, 0);
        x.lamps(0);
        Due.is("above 7", x.next(0, 7), -2);
        Due.is("above 998", x.next(0, 998), -2);
        x.pilgrim(20, 2, 2, 0);
        Due.is("PURSE", x.next(1, -1), -2);
        x.pilgrim(2, 99, 2, 0);
        Due.is("KNEES", x.next(2, -1), -2);
        x.vow(0, 1);
        Due.is("VOW", x.next(0, -1), -2);
        Due.row(x, 0, 1, 2);
        Due.is("999 of 998", dear().next(1, 998), -2);
        Due.sentence(24, "NONE: others, no STEPS");
        int[] others = {-2, 999, 1000, Integer.MIN_VALUE, Integer.MAX_VALUE};
        for (int v : others) {
            Twins.refused("next(0, " + v + ")", -1, y -> y.next(0, v));
        }
        for (int v : NO_PILGRIM) {
            Twins.refused("next(" + v + ", 0)", -1, y -> y.next(v, 0));
        }
        Twins.refused("no STEPS", -1, ClimbBoundsTest::noSteps, y -> y.next(0, 0));
    }

    private static void bears() {
        Due.sentence(25, "The greatest LOAD (0 .. 50), all else as told, with which it would have a climb() (with less it need not); "
            + "the ROW: its COST then");
        StairsInSteps x = Tell.with("10,9,2@0;10,9,3@0");
        x.pilgrim(120, 5, 1, 0);
        Due.is("2 times 60", x.bears(0), 50);
        Due.row(x, 5);
        x.pilgrim(119, 5, 1, 0);
        Due.is("2 times 59", x.bears(1), 49);
        x.pilgrim(20, 5, 1, 50);
        Due.is("2 times 10", x.bears(2), 0);
        Due.row(x, 5);
        Tell.law(x, 0, "(l<20)*50");
        Due.is("with 20 and more it is free", x.bears(1), 49);
        Due.row(x, 0);
        Due.is("with less it has none", x.climb(0), -2);
        Tell.law(x, 0, "(l>20)*50+l");
        x.pilgrim(120, 41, 1, 0);
        Due.is("2 times 20", x.bears(3), 20);
        Due.row(x, 40);
        x.tread(3, 0);
        Due.is("as told, from the ground", x.bears(3), 20);
        Due.sentence(25, "Nothing changes");
        Twins.asks("bears", y -> y.bears(0));
        Twins.asks("bears", y -> y.bears(1));
    }

    private static void bearsNone() {
        Due.sentence(25, "-2: with none");
        StairsInSteps x = Tell.with("10,9,2@0;10,9,3@0");
        x.pilgrim(19, 5, 1, 0);
        x.pilgrim(20, 4, 1, 0);
        x.pilgrim(20, 5, 1, 0);
        x.lamps(0);
        Due.is("KNEES", x.bears(0), -2);
        Due.is("PURSE", x.bears(1), -2);
        x.vow(2, 1);
        Due.is("VOW", x.bears(2), -2);
        Due.row(x, 0, 1);
        Due.sentence(25, "NONE: none such, no STEPS");
        for (int v : NO_PILGRIM) {
            Twins.refused("bears(" + v + ")", -1, y -> y.bears(v));
        }
        Twins.refused("no STEPS", -1, ClimbBoundsTest::noSteps, y -> y.bears(0));
    }

    private static void breaks() {
        Due.sentence(26, "The FAMILY of its VOW without which its climb() would COST the least; of equal ones the first: it; "
            + "the ROW: that COST, COST of climb() as it is (NONE without one)");
        StairsInSteps x = Tell.with("1,9,5@0;1,9,1@1;1,9,3@7;1,9,0@3");
        x.pilgrim(60, 99, 2, 0);
        x.vow(0, 1 + 2);
        // as it is none: 2 is too far from the ground; without 0: 0 2 3; without 1: 1 3
        Due.is("without 1", x.breaks(0), 1);
        Due.row(x, 1, -1);
        x.vow(0, 2 + 16);
        // as it is 0 2 3
        Due.is("without 1", x.breaks(0), 1);
        Due.row(x, 1, 8);
        x.vow(0, 16 + 64);
        Due.is("of equal ones the first", x.breaks(0), 4);
        Due.row(x, 1, 1);
        x.vow(0, 1 + 128);
        Due.is("of equal ones the first", x.breaks(0), 0);
        Due.row(x, 1, 1);
        x.vow(0, 2 + 128);
        // as it is none; without 1: 1 3; without 7: 0 2 3
        Due.is("without 1", x.breaks(0), 1);
        Due.row(x, 1, -1);
        x.set(1, 0, 20);
        Due.is("without 7", x.breaks(0), 7);
        Due.row(x, 8, -1);
        Due.sentence(26, "Nothing changes");
        Twins.asks("breaks", y -> y.breaks(1));
    }

    private static void breaksNone() {
        Due.sentence(26, "-2: with none of them left out it has one, or it has no VOW");
        StairsInSteps x = Tell.with("1,9,5@0;1,9,1@1;1,9,3@7;1,9,0@3");
        x.pilgrim(60, 99, 2, 0);
        x.lamps(23);
        Due.is("no VOW", x.breaks(0), -2);
        x.vow(0, 1 + 2 + 8);
        Due.is("two of them are too many", x.breaks(0), -2);
        x.pilgrim(60, 0, 2, 0);
        x.vow(1, 1);
        Due.is("PURSE", x.breaks(1), -2);
        Due.row(x, 3);
        Due.sentence(26, "NONE: none such, no STEPS");
        for (int v : NO_PILGRIM) {
            Twins.refused("breaks(" + v + ")", -1, y -> y.breaks(v));
        }
        Twins.refused("no STEPS", -1, ClimbBoundsTest::noSteps, y -> y.breaks(0));
    }
}
