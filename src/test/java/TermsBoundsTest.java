/** The document's terms, sentence by sentence: the last value within each bound and the first one outside it. */
public final class TermsBoundsTest {
    public static void main(String[] args) {
        howManySteps();
        ofEachStep();
        parts();
        feuds();
        signsOfTheStairs();
        linesOfTheStairs();
        signsOfALaw();
        comparisons();
        sumsAndProducts();
        things();
        brackets();
        lettersOfTheStep();
        lettersOfTheMove();
        asInts();
        withoutALaw();
        pilgrims();
        vows();
        moves();
        effort();
        climbsThatCanBe();
        stateAtFirst();
        coppers();
        fractions();
        rows();
        refusals();
        Due.finish(0, 0);
    }

    private static void howManySteps() {
        Due.term("STEPS 0 .. (2 to 24 of them)");
        StairsInSteps x = new StairsInSteps();
        Due.is("1", Tell.stairs(x, "5,9,1@0"), -100);
        Due.is("2", Tell.stairs(x, "5,9,1@0*2"), 2);
        Due.is("the first is 0", x.step(0, 0), 5);
        Due.is("the last is 1", x.step(1, 0), 5);
        Due.noSuch("2", () -> x.step(2, 0));
        Due.noSuch("-1", () -> x.step(-1, 0));
        Due.is("24", Tell.stairs(x, "5,9,1@0*24"), 24);
        Due.is("the last is 23", x.step(23, 0), 5);
        Due.noSuch("24", () -> x.step(24, 0));
        Due.is("25", Tell.stairs(x, "5,9,1@0*25"), -1 - 9);
        Due.is("24 and 1", Tell.stairs(x, "5,9,1@0*24;5,9,1@0"), -1 - 11);
        Due.is("as they were", x.count(0), 24);
    }

    private static int told(String line, int what) {
        StairsInSteps x = new StairsInSteps();
        int steps = Tell.stairs(x, line);
        return steps < 0 ? steps : x.step(0, what);
    }

    private static void ofEachStep() {
        Due.term("RISE 1 .. 30");
        Due.is("RISE 0", told("0,9,1@0*2", 0), -1);
        Due.is("RISE 1", told("1,9,1@0*2", 0), 1);
        Due.is("RISE 30", told("30,9,1@0*2", 0), 30);
        Due.is("RISE 31", told("31,9,1@0*2", 0), -2);
        Due.term("STATE 0 .. 9 (9 whole)");
        Due.is("STATE 0", told("5,0,1@0*2", 1), 0);
        Due.is("STATE 9", told("5,9,1@0*2", 1), 9);
        Due.is("STATE 10", told("5,10,1@0*2", 1), -1 - 3);
        Due.term("ASKS 0 .. 20");
        Due.is("ASKS 0", told("5,9,0@0*2", 2), 0);
        Due.is("ASKS 20", told("5,9,20@0*2", 2), 20);
        Due.is("ASKS 21", told("5,9,21@0*2", 2), -1 - 5);
        Due.term("whether it is a WIDOW's");
        Due.is("no WIDOW's", told("5,9,1@0*2", 3), 0);
        Due.is("a WIDOW's", told("5,9,1@0w*2", 3), 1);
    }

    private static void parts() {
        Due.term("FAMILIES 0 .. 7 have WHOLE = 720 of it together");
        StairsInSteps x = Tell.with("5,9,1@0;5,9,1@7");
        Due.is("0 has it", x.parts(0, 0), 720);
        Due.is("7 has it", x.parts(1, 7), 720);
        Due.is("-1", x.parts(0, -1), -1);
        Due.is("8", x.parts(0, 8), -1);
        dueWhole(x);
        x.sells(0, 0, 1, 1, 7);
        x.keep(0);
        dueWhole(x);
        x.dies(0, 2 + 4 + 8 + 16 + 32 + 64 + 128);
        dueWhole(x);
        x.dies(7, 2 + 16 + 64);
        dueWhole(x);
        x.undo();
        dueWhole(x);
        x.again(0);
        dueWhole(x);
        Due.term("MAIN: the FAMILY with the most PARTS (of equal ones the first)");
        StairsInSteps y = Tell.with("5,9,1@3*2");
        Due.is("all of it", y.step(0, 4), 3);
        y.sells(0, 3, 5, 1, 2);
        Due.is("360 and 360: the first", y.step(0, 4), 3);
        y.sells(1, 3, 2, 1, 2);
        Due.is("360 and 360: the first", y.step(1, 4), 2);
        y.sells(0, 3, 7, 1, 9);
        Due.is("320, 360 and 40", y.step(0, 4), 5);
        y.dies(5, 255 - 32);
        // of 7 heirs the first three have 52, the others 51
        Due.is("320 and 51", y.parts(0, 3), 371);
        Due.is("the most", y.step(0, 4), 3);
    }

    private static void dueWhole(StairsInSteps x) {
        for (int step = 0; step < x.count(0); step++) {
            int sum = 0;
            for (int family = 0; family < 8; family++) {
                sum += x.parts(step, family);
            }
            Due.is("PARTS of STEP " + step, sum, 720);
        }
    }

    private static void feuds() {
        Due.term("FEUD of two FAMILIES or not (at first not)");
        StairsInSteps x = Tell.with("1,9,1@0;1,9,1@1;1,9,1@2");
        Due.is("at first none", x.count(5), 0);
        x.pilgrim(60, 99, 1, 0);
        Tell.law(x, 0, "x");
        x.tread(0, 0);
        Due.is("at first not", x.costs(0, 1), 0);
        x.feud(1, 0, true);
        Due.is("FEUD of 0 with 1 is one of 1 with 0", x.costs(0, 1), 1);
        x.tread(0, 1);
        Due.is("1 and 2 not", x.costs(0, 2), 0);
        Due.is("one", x.count(5), 1);
    }

    private static void signsOfTheStairs() {
        Due.term("THE STAIRS are a text of at most 76 signs");
        StairsInSteps x = new StairsInSteps();
        Due.is("76 signs", Tell.stairs(x, Tell.times("1,9,1@0;", 8) + "01,09,1@0w*1"), 9);
        Due.is("77 signs", Tell.stairs(x, Tell.times("1,9,1@0;", 8) + "01,09,01@0w*1"), -77);
        Due.is("80 signs", Tell.stairs(x, Tell.times("1,9,1@0;", 8) + "01,09,01@0w*1;1,"), -77);
    }

    private static void linesOfTheStairs() {
        StairsInSteps x = new StairsInSteps();
        Due.term("LINES with ; between");
        Due.is("two", Tell.stairs(x, "1,9,1@0;2,9,1@0"), 2);
        Due.is("one behind the last", Tell.stairs(x, "1,9,1@0;2,9,1@0;"), -1 - 16);
        Due.is("one ahead of the first", Tell.stairs(x, ";1,9,1@0;2,9,1@0"), -1);
        Due.is("two between", Tell.stairs(x, "1,9,1@0;;2,9,1@0"), -1 - 8);
        Due.is("none between", Tell.stairs(x, "1,9,1@02,9,1@0"), -1 - 7);
        Due.term("RISE, a comma, STATE, a comma, ASKS, @, FAMILY (a digit 0 .. 7; it has all of it)");
        Due.is("FAMILY 0", told("1,9,1@0*2", 4), 0);
        Due.is("FAMILY 7", told("1,9,1@7*2", 4), 7);
        Due.is("FAMILY 8", told("1,9,1@8*2", 4), -1 - 6);
        Due.is("the sign ahead of 0", told("1,9,1@/*2", 4), -1 - 6);
        Due.is("two digits", told("1,9,1@07*2", 4), -1 - 7);
        Tell.stairs(x, "1,9,1@6*2");
        Due.is("it has all of it", x.parts(1, 6), 720);
        Due.is("the others nothing", x.parts(1, 0) + x.parts(1, 7), 0);
        Due.term("perhaps w (a WIDOW's), and perhaps * and TIMES (1 .. 24: so many STEPS alike)");
        Due.is("w and TIMES", Tell.stairs(x, "3,4,5@6w*2;1,9,1@0"), 3);
        for (int what = 0; what < 5; what++) {
            Due.is("alike", x.step(1, what), x.step(0, what));
        }
        Due.is("a WIDOW's, too", x.step(1, 3), 1);
        Due.is("not the next", x.step(2, 3), 0);
        Due.is("TIMES ahead of w", Tell.stairs(x, "1,9,1@0*2w"), -1 - 9);
        Due.is("TIMES 0", Tell.stairs(x, "1,9,1@0*0;1,9,1@0*2"), -1 - 8);
        Due.is("TIMES 1", Tell.stairs(x, "1,9,1@0*1;1,9,1@0*2"), 3);
        Due.is("TIMES 24", Tell.stairs(x, "1,9,1@0*24"), 24);
        Due.is("TIMES 25", Tell.stairs(x, "1,9,1@0*25"), -1 - 9);
        Due.term("Numbers of 1 or 2 digits");
        Due.is("of 1", Tell.stairs(x, "1,2,3@0*4"), 4);
        Due.is("of 2", Tell.stairs(x, "01,02,03@0*04"), 4);
        Due.is("RISE", x.step(0, 0), 1);
        Due.is("STATE", x.step(0, 1), 2);
        Due.is("ASKS", x.step(0, 2), 3);
        Due.is("RISE of 3", Tell.stairs(x, "011,02,03@0*04"), -1 - 2);
        Due.is("STATE of 3", Tell.stairs(x, "1,002,3@0*4"), -1 - 4);
        Due.is("ASKS of 3", Tell.stairs(x, "1,2,003@0*4"), -1 - 6);
        Due.is("TIMES of 3", Tell.stairs(x, "1,2,3@0*004"), -1 - 9);
        Due.is("RISE of none", Tell.stairs(x, ",2,3@0*4"), -1);
        Due.is("STATE of none", Tell.stairs(x, "1,,3@0*4"), -1 - 2);
        Due.is("ASKS of none", Tell.stairs(x, "1,2,@0*4"), -1 - 4);
        Due.is("TIMES of none", Tell.stairs(x, "1,2,3@0*;"), -1 - 8);
        Due.term("The first one is the lowest");
        Tell.stairs(x, "7,9,1@0;8,9,1@0");
        Due.is("STEP 0", x.step(0, 0), 7);
        Due.is("STEP 1", x.step(1, 0), 8);
    }

    private static void signsOfALaw() {
        Due.term("LAWS 0, 1 are texts of at most 40 signs (at first none)");
        StairsInSteps x = new StairsInSteps();
        Due.is("at first none", x.count(2), 0);
        Due.is("40 signs", Tell.law(x, 0, Tell.times("a+", 19) + "10"), 0);
        Due.is("41 signs", Tell.law(x, 1, Tell.times("a+", 20) + "1"), -41);
        Due.is("LAW 0 alone", x.count(2), 1);
        Due.is("LAW 1, too", Tell.law(x, 1, "1"), 0);
        Due.is("both", x.count(2), 3);
    }

    /** What LAW 0 says of a step with RISE 5, STATE 7, ASKS 3, a WIDOW's, that is come to from the ground with LOAD 4. */
    private static int worth(String law) {
        StairsInSteps x = Tell.with("5,7,3@0w*3");
        x.pilgrim(120, 999, 3, 4);
        int answer = Tell.law(x, 0, law);
        return answer < 0 ? answer : x.costs(0, 0);
    }

    private static void comparisons() {
        Due.term("< > = bind least (two; 1 or 0; not one behind the other)");
        Due.is("2<3", worth("2<3"), 1);
        Due.is("3<3", worth("3<3"), 0);
        Due.is("3>2", worth("3>2"), 1);
        Due.is("3>3", worth("3>3"), 0);
        Due.is("3=3", worth("3=3"), 1);
        Due.is("3=2", worth("3=2"), 0);
        Due.is("1+1<1+2", worth("1+1<1+2"), 1);
        Due.is("3-1>1*2", worth("3-1>1*2"), 0);
        Due.is("7-4=9/3", worth("7-4=9/3"), 1);
        Due.is("-2<-1", worth("-2<-1"), 1);
        Due.is("1<2<3", worth("1<2<3"), -1 - 3);
        Due.is("1=1=1", worth("1=1=1"), -1 - 3);
        Due.is("1>2=0", worth("1>2=0"), -1 - 3);
        Due.is("in ( )", worth("(1<2)<3"), 1);
        Due.is("in ( ) behind", worth("3>(1<2)"), 1);
        Due.is("within ( ) one behind the other", worth("(1<2<3)"), -1 - 4);
        Due.is("only one thing", worth("1<"), -1 - 2);
        Due.is("nothing ahead", worth("<1"), -1);
    }

    private static void sumsAndProducts() {
        Due.term("then + - (from the left)");
        Due.is("9-3-2", worth("9-3-2"), 4);
        Due.is("9-3+2", worth("9-3+2"), 8);
        Due.is("9+3-2", worth("9+3-2"), 10);
        Due.term("then * / (from the left; by 0: 0; cut to 0)");
        Due.is("2+3*4", worth("2+3*4"), 14);
        Due.is("3*4+2", worth("3*4+2"), 14);
        Due.is("20-8/4", worth("20-8/4"), 18);
        Due.is("40/4/2", worth("40/4/2"), 5);
        Due.is("7/2*2", worth("7/2*2"), 6);
        Due.is("2*7/2", worth("2*7/2"), 7);
        Due.is("7/0", worth("7/0"), 0);
        Due.is("0/0", worth("0/0"), 0);
        Due.is("7/0+5", worth("7/0+5"), 5);
        Due.is("7/(3-a)+1", worth("7/(3-a)+1"), 1);
        Due.is("7/2", worth("7/2"), 3);
        Due.is("-7/2+9", worth("-7/2+9"), 6);
        Due.is("7/-2+9", worth("7/-2+9"), 6);
        Due.is("-7/-2", worth("-7/-2"), 3);
        Due.is("-1/2+9", worth("-1/2+9"), 9);
        Due.term("then - ahead of a thing (any many)");
        Due.is("9+-2", worth("9+-2"), 7);
        Due.is("9--2", worth("9--2"), 11);
        Due.is("9---2", worth("9---2"), 7);
        Due.is("3*-2+9", worth("3*-2+9"), 3);
        Due.is("-2*-3", worth("-2*-3"), 6);
        Due.is("-(2-9)", worth("-(2-9)"), 7);
        Due.is("38 of them", worth(Tell.times("-", 38) + "7"), 7);
        Due.is("39 of them", worth(Tell.times("-", 39) + "7"), 0);
        Due.is("none ahead of +", worth("-+7"), -1 - 1);
    }

    private static void things() {
        Due.term("a NUMBER of 1 to 3 digits");
        Due.is("of 1", worth("7"), 7);
        Due.is("of 2", worth("42"), 42);
        Due.is("of 3", worth("999/99"), 10);
        Due.is("of 3", worth("007"), 7);
        Due.is("of 4", worth("0007"), -1 - 3);
        Due.is("of 4 further on", worth("1+9999"), -1 - 5);
    }

    private static void brackets() {
        Due.term("an EXPRESSION in ( ) (at most 4 in one another)");
        Due.is("4", worth("((((7))))"), 7);
        Due.is("5", worth("(((((7)))))"), -1 - 4);
        Due.is("4, twice", worth("((((7))))+((((8))))"), 15);
        Due.is("5 behind 4", worth("((((7))))+(((((8)))))"), -1 - 14);
        Due.is("a comparison within", worth("(1<2)*9"), 9);
        Due.is("(2+3)*4", worth("(2+3)*4"), 20);
        Due.is("empty", worth("()"), -1 - 1);
        Due.is("not closed", worth("(7"), -1 - 2);
        Due.is("not opened", worth("7)"), -1 - 1);
    }

    private static void lettersOfTheStep() {
        Due.term("of a STEP: a ASKS, r RISE, s STATE, w 1 for a WIDOW's");
        Due.is("a", worth("a"), 3);
        Due.is("r", worth("r"), 5);
        Due.is("s", worth("s"), 7);
        Due.is("w", worth("w"), 1);
        Due.is("another letter", worth("b"), -1);
        Due.is("a great letter", worth("A"), -1);
        StairsInSteps x = Tell.with("1,9,1@0*2");
        x.pilgrim(120, 999, 1, 0);
        Tell.law(x, 0, "w");
        Due.is("w of another one", x.costs(0, 0), 0);
    }

    private static void lettersOfTheMove() {
        Due.term("x 1 if its MAIN is in FEUD with the MAIN of the STEP one comes from (0 from the ground)");
        StairsInSteps x = Tell.with("1,9,1@0;1,9,1@1;1,9,1@2;1,9,1@0");
        x.feud(0, 1, true);
        x.feud(0, 2, true);
        x.pilgrim(120, 999, 3, 0);
        Tell.law(x, 0, "x*5");
        Tell.law(x, 1, "x*7");
        Due.is("from the ground", x.costs(0, 0), 0);
        Due.is("from the ground over others", x.costs(0, 2), 0);
        x.tread(0, 0);
        Due.is("in FEUD", x.costs(0, 1), 5);
        Due.is("the STEP leapt over is in FEUD with it, too", x.costs(0, 2), 5 + 7);
        Due.is("those leapt over alone", x.costs(0, 3), 7 + 7);
        x.tread(0, 1);
        Due.is("1 and 2 are not", x.costs(0, 2), 0);
        x.sells(2, 2, 0, 9, 9);
        Due.is("the MAIN it has now", x.costs(0, 2), 5);
        Due.term("l LOAD, j how many STEPS are leapt over in that move");
        StairsInSteps y = Tell.with("1,9,1@0*5");
        y.pilgrim(120, 999, 3, 50);
        y.pilgrim(120, 999, 3, 0);
        Tell.law(y, 0, "l");
        Due.is("LOAD 50", y.costs(0, 0), 50);
        Due.is("LOAD 0", y.costs(1, 0), 0);
        Tell.law(y, 0, "j+10");
        Due.is("none", y.costs(0, 0), 10);
        Due.is("one", y.costs(0, 1), 11);
        Due.is("two", y.costs(0, 2), 12);
        Tell.law(y, 1, "j*20");
        Due.is("LAW 1, none leapt over", y.costs(0, 0), 10);
        Due.is("LAW 1, one", y.costs(0, 1), 11 + 20);
        Due.is("LAW 1, two", y.costs(0, 2), 12 + 40 + 40);
    }

    private static void asInts() {
        Due.term("As ints, put to 0 .. 99");
        Due.is("0", worth("0"), 0);
        Due.is("-1", worth("-1"), 0);
        Due.is("99", worth("99"), 99);
        Due.is("100", worth("100"), 99);
        Due.is("98", worth("98"), 98);
        Due.is("what is in between is not put", worth("100-50"), 50);
        Due.is("what is in between is not put", worth("3-5+4"), 2);
        // 256 to the fourth is 2 to the 32nd: 0
        Due.is("products go round", worth("256*256*256*256+7"), 7);
        Due.is("to below 0", worth("128*256*256*256"), 0);
        Due.is("and back", worth("128*256*256*256-1=-1+128*256*256*256"), 1);
        Due.is("sums go round", worth("128*256*256*256-1>0"), 1);
        Due.is("the least by -1", worth("128*256*256*256/-1<0"), 1);
        Due.is("less the least", worth("-(128*256*256*256)<0"), 1);
        StairsInSteps x = Tell.with("1,9,1@0*3");
        x.pilgrim(120, 999, 3, 0);
        Tell.law(x, 0, "500");
        Tell.law(x, 1, "500");
        Due.is("each by itself", x.costs(0, 2), 99 * 3);
        Tell.law(x, 1, "0-500");
        Due.is("each by itself", x.costs(0, 2), 99);
    }

    private static void withoutALaw() {
        Due.term("LAW 0: what it costs to tread a STEP (without one: ASKS, a WIDOW's 0)");
        StairsInSteps x = Tell.with("1,9,7@0;1,9,8@0w;1,9,9@0");
        x.pilgrim(120, 999, 3, 0);
        Due.is("ASKS", x.costs(0, 0), 7);
        Due.is("a WIDOW's", x.costs(0, 1), 0);
        Tell.law(x, 0, "a");
        Due.is("with one a WIDOW's as it says", x.costs(0, 1), 8);
        Tell.law(x, 0, "");
        Due.is("without again", x.costs(0, 1), 0);
        Due.term("LAW 1: what is owed to each STEP leapt over (without one: 0)");
        Due.is("without", x.costs(0, 2), 9);
        Tell.law(x, 1, "a");
        Due.is("with", x.costs(0, 2), 9 + 7 + 8);
        Due.is("one", x.costs(0, 1), 7);
    }

    private static int pilgrimOf(int knees, int purse, int leap, int load) {
        return new StairsInSteps().pilgrim(knees, purse, leap, load);
    }

    private static void pilgrims() {
        Due.term("PILGRIMS 0 .. (at most 6)");
        StairsInSteps x = new StairsInSteps();
        for (int i = 0; i < 6; i++) {
            Due.is("one more", x.pilgrim(1, 1, 1, 1), i);
        }
        Due.is("a seventh", x.pilgrim(1, 1, 1, 1), -1);
        Due.term("KNEES 1 .. 120");
        Due.is("0", pilgrimOf(0, 0, 1, 0), -1);
        Due.is("1", pilgrimOf(1, 0, 1, 0), 0);
        Due.is("120", pilgrimOf(120, 0, 1, 0), 0);
        Due.is("121", pilgrimOf(121, 0, 1, 0), -1);
        Due.term("PURSE 0 .. 999");
        Due.is("-1", pilgrimOf(1, -1, 1, 0), -1);
        Due.is("0", pilgrimOf(1, 0, 1, 0), 0);
        Due.is("999", pilgrimOf(1, 999, 1, 0), 0);
        Due.is("1000", pilgrimOf(1, 1000, 1, 0), -1);
        Due.term("LEAP 1 .. 3");
        Due.is("0", pilgrimOf(1, 0, 0, 0), -1);
        Due.is("1", pilgrimOf(1, 0, 1, 0), 0);
        Due.is("3", pilgrimOf(1, 0, 3, 0), 0);
        Due.is("4", pilgrimOf(1, 0, 4, 0), -1);
        Due.term("LOAD 0 .. 50");
        Due.is("-1", pilgrimOf(1, 0, 1, -1), -1);
        Due.is("0", pilgrimOf(1, 0, 1, 0), 0);
        Due.is("50", pilgrimOf(1, 0, 1, 50), 0);
        Due.is("51", pilgrimOf(1, 0, 1, 51), -1);
    }

    private static void vows() {
        Due.term("a VOW: FAMILIES (bits) on a STEP of whose MAIN being one they do not tread");
        for (int family = 0; family < 8; family++) {
            StairsInSteps x = Tell.with("1,9,1@" + family + ";1,9,1@" + (family + 1) % 8);
            x.pilgrim(60, 99, 2, 0);
            x.vow(0, 255 - (1 << family));
            Due.is("all but " + family, x.tread(0, 0), 1);
            x.returns(0);
            x.vow(0, 1 << family);
            Due.is("FAMILY " + family, x.tread(0, 0), -3);
            Due.is("over it they leap", x.tread(0, 1), 1);
        }
        StairsInSteps y = Tell.with("1,9,1@0*2");
        y.pilgrim(60, 99, 2, 0);
        y.sells(0, 0, 1, 1, 2);
        y.vow(0, 2);
        Due.is("1 has half, but is not MAIN", y.tread(0, 0), 1);
    }

    private static void moves() {
        Due.term("A MOVE goes from a STEP (or from the ground, -1) up to one that is LEAP above at most");
        for (int leap = 1; leap <= 3; leap++) {
            StairsInSteps x = Tell.with("1,9,1@0*8");
            x.pilgrim(120, 999, leap, 0);
            Due.is("from the ground, LEAP", x.costs(0, leap - 1), 1);
            Due.is("from the ground, further", x.costs(0, leap), -2);
            x.tread(0, 0);
            Due.is("not up", x.costs(0, 0), -2);
            Due.is("the next", x.costs(0, 1), 1);
            Due.is("LEAP above", x.costs(0, leap), 1);
            Due.is("further", x.costs(0, leap + 1), -2);
            x.tread(0, 1);
            Due.is("down", x.costs(0, 0), -2);
        }
    }

    private static long effortTo(String stairs, int load, int step) {
        StairsInSteps x = Tell.with(stairs);
        x.pilgrim(120, 999, 3, load);
        x.costs(0, step);
        return x.row(0);
    }

    private static void effort() {
        Due.term("the sum of RISES of all STEPS from the next one to that, times (10 and LOAD) by 10, cut");
        Due.is("1 times 10 by 10", effortTo("1,9,0@0*3", 0, 0), 1);
        Due.is("1 times 19 by 10", effortTo("1,9,0@0*3", 9, 0), 1);
        Due.is("1 times 20 by 10", effortTo("1,9,0@0*3", 10, 0), 2);
        Due.is("5 times 11 by 10", effortTo("5,9,0@0*3", 1, 0), 5);
        Due.is("30 times 60 by 10", effortTo("30,9,0@0*3", 50, 0), 180);
        // cut once for all of them: 15 times 11 is 165, and not three times 5
        Due.is("the sum is cut, not each", effortTo("5,9,0@0*3", 1, 2), 16 + 10);
        Due.term("and 9 less STATE of that");
        Due.is("STATE 9", effortTo("1,0,0@0;1,9,0@0", 0, 1), 2 + 5);
        Due.is("STATE 0", effortTo("1,9,0@0;1,0,0@0", 0, 1), 2 + 9 + 5);
        Due.is("not times LOAD", effortTo("1,0,0@0*2", 50, 0), 6 + 9);
        Due.term("and 5 for each STEP leapt over");
        Due.is("none", effortTo("1,9,0@0*3", 0, 0), 1);
        Due.is("one", effortTo("1,9,0@0*3", 0, 1), 2 + 5);
        Due.is("two", effortTo("1,9,0@0*3", 0, 2), 3 + 10);
        Due.term("Its COST: LAW 0 of the STEP come to, and LAW 1 of each leapt over");
        StairsInSteps x = Tell.with("1,9,1@0;1,9,2@0;1,9,4@0;1,9,8@0");
        x.pilgrim(120, 999, 3, 0);
        Tell.law(x, 0, "a*10");
        Tell.law(x, 1, "a");
        Due.is("from the ground to 2", x.costs(0, 2), 40 + 1 + 2);
        x.tread(0, 0);
        Due.is("from 0 to 3", x.costs(0, 3), 80 + 2 + 4);
    }

    private static void climbsThatCanBe() {
        Due.term("MOVES from the ground to the uppermost STEP");
        StairsInSteps x = Tell.with("1,9,1@0*3");
        x.pilgrim(60, 99, 3, 0);
        x.tread(0, 0);
        Due.is("whatever it has gone", x.climb(0), 1);
        Due.row(x, 13, 1, 2);
        Due.term("if no VOW is broken");
        x.sells(2, 0, 1, 9, 9);
        x.vow(0, 1);
        Due.is("the uppermost alone is trodden", x.climb(0), 1);
        x.vow(0, 2);
        Due.is("the uppermost is forsworn", x.climb(0), -2);
        Due.term("its EFFORTS are KNEES together at most");
        StairsInSteps y = Tell.with("10,9,1@0;10,5,1@0");
        y.pilgrim(24, 99, 1, 0);
        y.pilgrim(23, 99, 1, 0);
        Due.is("24 of 24", y.climb(0), 2);
        Due.is("24 of 23", y.climb(1), -2);
        Due.term("and its COSTS are PURSE at most");
        StairsInSteps z = Tell.with("1,9,10@0;1,9,13@0");
        z.pilgrim(60, 23, 1, 0);
        z.pilgrim(60, 22, 1, 0);
        Due.is("23 of 23", z.climb(0), 23);
        Due.is("23 of 22", z.climb(1), -2);
    }

    private static void stateAtFirst() {
        Due.term("of each PILGRIM where it is (at first on the ground), KNEES and PURSE left");
        StairsInSteps x = Tell.with("1,9,1@0*2");
        x.pilgrim(7, 8, 1, 0);
        Due.is("on the ground", x.of(0, 0), -1);
        Due.is("all KNEES", x.of(0, 1), 7);
        Due.is("all PURSE", x.of(0, 2), 8);
        Due.term("of each FAMILY what it EARNED");
        Due.is("nothing", x.earned(0), 0);
        x.tread(0, 0);
        Due.is("KNEES left", x.of(0, 1), 6);
        Due.is("PURSE left", x.of(0, 2), 7);
        Due.is("EARNED", x.earned(0), 1);
    }

    private static void coppers() {
        Due.term("of n coppers at once each has n times its PARTS by 720, cut");
        StairsInSteps x = Tell.with("1,9,20@0;1,9,0@0");
        x.pilgrim(120, 999, 1, 0);
        x.sells(0, 0, 4, 1, 2);
        x.tread(0, 0);
        Due.is("half of 20", x.earned(0), 10);
        Due.is("half of 20", x.earned(4), 10);
        Due.term("what is left goes one by one to those with the greatest rest (of equal ones the first)");
        StairsInSteps y = Tell.with("1,9,7@0*2");
        y.pilgrim(120, 999, 1, 0);
        y.sells(0, 0, 5, 1, 2);
        y.tread(0, 0);
        Due.is("equal rests: the first has one more", y.earned(0), 4);
        Due.is("the other", y.earned(5), 3);
        StairsInSteps z = Tell.with("1,9,2@7*2");
        z.pilgrim(120, 999, 1, 0);
        // 7 keeps 480, 1 has 180, 3 has 60: 2 coppers are 960, 360, 120 of 720: 1, 0, 0 and one left for the rest 360
        z.sells(0, 7, 1, 1, 4);
        z.sells(0, 7, 3, 1, 9);
        Due.is("7 has", z.parts(0, 7), 480);
        z.tread(0, 0);
        Due.is("cut", z.earned(7), 1);
        Due.is("the greatest rest", z.earned(1), 1);
        Due.is("no rest is enough", z.earned(3), 0);
        StairsInSteps v = Tell.with("1,9,7@0*2");
        v.pilgrim(120, 999, 1, 0);
        v.dies(0, 254);
        v.undo();
        v.dies(0, 2 + 4 + 8 + 16 + 32);
        // five have 144 each: 7 coppers are 1 each with 288 of 720 left, two are left for the first two
        v.tread(0, 0);
        int[] due = {0, 2, 2, 1, 1, 1, 0, 0};
        for (int family = 0; family < 8; family++) {
            Due.is("FAMILY " + family, v.earned(family), due[family]);
        }
        Due.is("all of it", v.count(4), 7);
    }

    private static void fractions() {
        Due.term("Fractions are told in lowest terms, upper and lower number (0 by 1)");
        StairsInSteps x = Tell.with("1,9,0@0;1,9,0@0;1,9,0@0;1,9,0@0");
        x.pilgrim(120, 0, 2, 0);
        // 0123, 023, 013, 123, 13: 5 climbs
        Due.is("trod", x.trod(0, 0, 0), 0);
        Due.row(x, 3, 5);
        Due.is("all", x.trod(0, 0, 3), 0);
        Due.row(x, 1, 1);
        Tell.law(x, 0, "1");
        x.pilgrim(120, 99, 2, 0);
        // of 3 coppers: 023, 013, 123
        Due.is("trod", x.trod(1, 3, 1), 0);
        Due.row(x, 2, 3);
        x.pilgrim(120, 99, 3, 0);
        // of 2 coppers: 03, 13, 23; of 3: 013, 023, 123
        Due.is("a third", x.trod(2, 2, 0), 0);
        Due.row(x, 1, 3);
        x.sells(0, 0, 1, 9, 9);
        x.vow(2, 2);
        Due.is("none", x.trod(2, 2, 0), 0);
        Due.row(x, 0, 1);
        // of 2 coppers 13 and 23 are left
        Due.is("one of two", x.trod(2, 2, 1), 0);
        Due.row(x, 1, 2);
        StairsInSteps y = Tell.with("1,9,0@0*5");
        Tell.law(y, 0, "1");
        y.pilgrim(120, 99, 3, 0);
        // of 3 coppers six, each of the lower four in three of them: 3 by 6; but 4 is no MOVE ahead of 0: 014, 024, 034, 124, 134, 234
        Due.is("six ways", y.ways(0, 3), 6);
        Due.is("three of six", y.trod(0, 3, 1), 0);
        Due.row(y, 1, 2);
    }

    private static void rows() {
        Due.term("ROW: numbers told last by a call that says so");
        StairsInSteps x = Twins.rich();
        x.lamps(0);
        String due = Due.rowOf(x);
        x.sign(7);
        x.end(0);
        x.step(0, 0);
        x.set(0, 0, 4);
        x.sheet(2, 4, 1, 1);
        x.feud(3, 4, true);
        x.wears(1);
        x.pilgrim(9, 9, 1, 0);
        x.vow(2, 1);
        x.of(0, 0);
        x.tread(0, 1);
        x.rests(0, 1);
        x.returns(0);
        x.who(3, 0);
        x.mends(0);
        x.would(0, 5);
        x.parts(0, 0);
        x.sells(0, 0, 1, 1, 2);
        x.dies(0, 2);
        x.undo();
        x.keep(0);
        x.again(0);
        x.count(0);
        x.row(0);
        Tell.law(x, 0, "a");
        Tell.stairs(x, "1,9,1@0*3");
        Due.is("the others leave it", Due.rowOf(x).equals(due), true);
        Due.row(x, 0, 1, 2, 3);
        Due.is("a shorter one", x.lamps(1), 1);
        Due.row(x, 1);
        Due.noSuch("what a longer one had is gone", () -> x.row(1));
        Due.term("Rows of numbers are compared from the first on");
        // all STEPS but the uppermost are worn by 5: to tread one is as hard as to leap over it; all 4 MOVES or fewer are alike
        StairsInSteps y = Tell.with("1,4,0@0*5;1,9,0@0");
        y.pilgrim(120, 0, 3, 0);
        Due.is("climb", y.climb(0), 0);
        // two MOVES: 2 5 alone
        Due.row(y, 6 + 5 + 20, 2, 2, 5);
        StairsInSteps z = Tell.with("1,4,0@0*6;1,9,0@0");
        z.pilgrim(120, 0, 3, 0);
        Due.is("climb", z.climb(0), 0);
        // three MOVES: the least begins with 0, and then 3, from where 6 is three above
        Due.row(z, 7 + 10 + 20, 3, 0, 3, 6);
    }

    private static void refusals() {
        Due.term("Refused calls answer NONE, or false, and change nothing but THE TEXT, which a call that reads it empties");
        Due.is("NONE", StairsInSteps.NONE, -1);
        Twins.refused("set", -1, x -> x.set(0, 0, 21));
        Twins.refused("feud", 0, x -> x.feud(1, 1, true) ? 1 : 0);
        Twins.emptied("stairs", -1 - 8, "5,9,3@0*", x -> x.stairs());
        Twins.emptied("law 0", -1 - 2, "a+", x -> x.law(0));
        Twins.emptied("law 1", -1 - 2, "a+", x -> x.law(1));
        Twins.emptied("law 2", -100, "a", x -> x.law(2));
    }
}
