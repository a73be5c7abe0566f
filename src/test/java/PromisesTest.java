import java.util.NoSuchElementException;

/** The promises of the document one by one: ordinary inputs, the edges it names, wrong inputs. */
public final class PromisesTest {
    private static int wrong = 0;
    private static String promise = "";

    public static void main(String[] args) {
        newObject();
        signAndEnd();
        stairsRight();
        stairsWrong();
        stairsTooLong();
        stairsForget();
        lawsRight();
        lawsWrong();
        lawsWorth();
        stepAndSet();
        sheet();
        feudAndWears();
        pilgrimAndVow();
        of();
        costs();
        tread();
        rests();
        returnsAndEarned();
        climb();
        knees();
        waysAndTrod();
        whoAndNext();
        bears();
        breaks();
        allWholeShut();
        mends();
        toll();
        peace();
        lamps();
        wouldAndBest();
        market();
        sells();
        dies();
        undo();
        rail();
        rules();
        feast();
        jam();
        keepAndAgain();
        countAndRow();
        noSteps();
        refusedChangesNothing();
        System.out.println(wrong == 0 ? "all promises hold" : wrong + " answers are not as due");
        if (wrong != 0) {
            System.exit(1);
        }
    }

    private static void due(String call, long got, long want) {
        if (got != want) {
            wrong++;
            System.out.println(promise + ": " + call + " answered " + got + ", due is " + want);
        }
    }

    private static void due(String call, boolean got, boolean want) {
        due(call, got ? 1 : 0, want ? 1 : 0);
    }

    private static void dueRow(StairsInSteps x, long... want) {
        StringBuilder got = new StringBuilder();
        StringBuilder right = new StringBuilder();
        for (int i = 0; i < x.count(6); i++) {
            got.append(x.row(i)).append(' ');
        }
        for (long number : want) {
            right.append(number).append(' ');
        }
        if (!got.toString().equals(right.toString())) {
            wrong++;
            System.out.println(promise + ": the row is " + got + ", due is " + right);
        }
    }

    private static boolean stepThrows(StairsInSteps x, int step, int what) {
        try {
            x.step(step, what);
            return false;
        } catch (NoSuchElementException e) {
            return true;
        }
    }

    private static boolean ofThrows(StairsInSteps x, int pilgrim, int what) {
        try {
            x.of(pilgrim, what);
            return false;
        } catch (NoSuchElementException e) {
            return true;
        }
    }

    private static boolean rowThrows(StairsInSteps x, int i) {
        try {
            x.row(i);
            return false;
        } catch (NoSuchElementException e) {
            return true;
        }
    }

    private static void newObject() {
        promise = "1";
        StairsInSteps x = new StairsInSteps();
        due("NONE", StairsInSteps.NONE, -1);
        for (int what = 0; what < 8; what++) {
            due("count(" + what + ")", x.count(what), 0);
        }
    }

    private static void signAndEnd() {
        promise = "2, 3";
        StairsInSteps x = new StairsInSteps();
        due("end(0)", x.end(0), true);
        due("end(1)", x.end(1), false);
        due("sign", x.sign(0x352C312C), 4);
        due("end(-1)", x.end(-1), false);
        due("end(5)", x.end(5), false);
        due("end(3)", x.end(3), true);
        due("count(7)", x.count(7), 3);
        due("end(4)", x.end(4), false);
        due("sign", x.sign(0x2C314031), 7);
        // highest byte first: "5,1" and ",1@1" make one step
        due("stairs()", x.stairs(), -100);
        for (int i = 1; i <= 20; i++) {
            due("sign", x.sign(-1), 4 * i);
        }
        due("sign beyond 80", x.sign(0), -1);
        due("count(7)", x.count(7), 80);
        due("end(77)", x.end(77), true);
        due("sign to 81", x.sign(0), -1);
        due("end(76)", x.end(76), true);
        due("sign to 80", x.sign(0), 80);
        due("stairs() of signs 255", x.stairs(), -1);
        due("count(7)", x.count(7), 0);
    }

    private static void stairsRight() {
        promise = "4";
        StairsInSteps x = new StairsInSteps();
        due("two", Tell.stairs(x, "1,0,0@0;30,9,20@7w"), 2);
        due("rise", x.step(0, 0), 1);
        due("state", x.step(0, 1), 0);
        due("asks", x.step(0, 2), 0);
        due("widow", x.step(0, 3), 0);
        due("main", x.step(0, 4), 0);
        due("rise", x.step(1, 0), 30);
        due("state", x.step(1, 1), 9);
        due("asks", x.step(1, 2), 20);
        due("widow", x.step(1, 3), 1);
        due("main", x.step(1, 4), 7);
        due("parts", x.parts(1, 7), 720);
        due("leading noughts", Tell.stairs(x, "05,09,07@3w*02"), 2);
        due("rise", x.step(1, 0), 5);
        due("state", x.step(1, 1), 9);
        due("asks", x.step(1, 2), 7);
        due("24", Tell.stairs(x, "5,9,1@0*24"), 24);
        due("1 and 23", Tell.stairs(x, "5,9,1@0;4,9,1@0*23"), 24);
        due("lowest first", x.step(0, 0), 5);
        due("upper", x.step(23, 0), 4);
        due("one alone", Tell.stairs(x, "5,9,1@0"), -100);
        due("one, once", Tell.stairs(x, "5,9,1@0*1"), -100);
        due("none", Tell.stairs(x, ""), -100);
        due("they are as they were", x.count(0), 24);
        String long76 = Tell.times("10,9,10@0;", 6) + "10,9,10@0w*17;9,";
        due("76 signs", long76.length(), 76);
        due("76 signs that end too early", Tell.stairs(x, long76), -77);
        String right76 = "1,1,10@0;" + Tell.times("10,9,1@0;", 6) + "10,9,10@1w*17";
        due("76 signs", right76.length(), 76);
        due("76 signs", Tell.stairs(x, right76), 24);
    }

    private static void stairsWrong() {
        promise = "4, faults";
        StairsInSteps x = new StairsInSteps();
        String[] texts = {
            "x", "0", "00,", "0,9,1@0", "31,9,1@0", "5", "5,", "5;", "301,", "5,10,1@0", "5,9", "5,9,", "5,99,", "5,100",
            "5,9,21@0", "5,9,200", "5,9,1", "5,9,1@", "5,9,1@8", "5,9,1@0x", "5,9,1@0ww", "5,9,1@0*", "5,9,1@0*0", "5,9,1@0*00",
            "5,9,1@0*25", "5,9,1@0*241", "5,9,1@0*2w", "5,9,1@0;", "5,9,1@0;;", "5,9,1@00", "5,9,1@0*24;", "5,9,1@0*24;5",
            "5,9,1@0;5,9,1@0*24", "5,9,1@0*23;5,9,1@0*2", "5,9,1@0*23;5,9,1@0*9", "5,9,1@0*24;x", ";", ",", "5,,", "5,9@", " 5",
            "5,9,1@0*3;0", "5,9,1@0w*w", "5,9,1@\0",
        };
        int[] faults = {
            0, 0, 1, 0, 1, 1, 2, 1, 2, 3, 3, 4, 3, 3,
            5, 6, 5, 6, 6, 7, 8, 8, 8, 9,
            9, 10, 9, 8, 8, 7, 11, 11,
            17, 19, 19, 11, 0, 0, 2, 3, 0,
            10, 9, 6,
        };
        for (int i = 0; i < texts.length; i++) {
            x = new StairsInSteps();
            due("stairs() of " + texts[i], Tell.stairs(x, texts[i]), -1 - faults[i]);
            due("the text is gone", x.count(7), 0);
        }
        due("no stairs", x.count(0), 0);
    }

    private static void stairsTooLong() {
        promise = "4, 76 signs";
        StairsInSteps x = new StairsInSteps();
        // 7 lines of 10 signs are 70, then the rest
        String seventy = Tell.times("10,9,10@0;", 7);
        due("could end, has more", Tell.stairs(x, seventy + "1,9,1@0;1,9"), -77);
        due("could go on", Tell.stairs(x, seventy + "1,9,1@0w*2"), -77);
        due("wrong ahead of 76", Tell.stairs(x, seventy + "1,9,xx@0;1"), -75);
        due("wrong behind 76 is not looked at", Tell.stairs(x, seventy + "1,9,1@xxxx"), -77);
        due("wrong at 75", Tell.stairs(x, seventy + "1,9,1xxxxx"), -76);
        String line75 = Tell.times("10,9,10@0;", 6) + "10,9,10@0w*01;";
        due("74 signs", line75.length(), 74);
        due("a number is cut at 76", Tell.stairs(x, line75 + "10,9"), -77);
        String upTo75 = Tell.times("10,9,10@0;", 6) + "10,9,10@0w*011";
        due("third digit", Tell.stairs(x, upTo75), -1 - 73);
        String to75 = Tell.times("10,9,10@0;", 6) + "10,9,10@0w*01;;";
        due("75 signs", to75.length(), 75);
        due("an empty line", Tell.stairs(x, to75 + "0"), -1 - 74);
        String cut = Tell.times("10,9,10@0;", 6) + "10,09,10@0w*01;";
        due("75 signs", cut.length(), 75);
        // the digit at 75 is all of the number that stands in the first 76
        due("a rise 0 at 75, though 05 would be right", Tell.stairs(x, cut + "05,9"), -1 - 75);
        due("a rise 3 at 75, though 35 would be wrong", Tell.stairs(x, cut + "35,9"), -77);
        String fullUp = Tell.times("10,9,10@0;", 6) + "10,09,10@0w*18;";
        due("24 ahead", Tell.stairs(x, fullUp + "5,9,"), -1 - 75);
    }

    private static void stairsForget() {
        promise = "4, what is gone";
        StairsInSteps x = Tell.with("5,9,2@0*3");
        x.pilgrim(60, 30, 2, 0);
        x.vow(0, 128);
        x.feud(1, 2, true);
        Tell.law(x, 1, "a");
        x.tread(0, 0);
        x.sells(0, 0, 1, 1, 2);
        x.keep(0);
        due("a wrong text changes nothing", Tell.stairs(x, "5,9,2@0*"), -9);
        due("of(0,0)", x.of(0, 0), 0);
        due("count(3)", x.count(3), 1);
        due("again(0)", x.again(0), true);
        x.sells(0, 0, 1, 1, 2);
        x.earned(0);
        due("stairs()", Tell.stairs(x, "5,9,2@3*2"), 2);
        dueRow(x, 1620);
        due("of(0,0)", x.of(0, 0), -1);
        due("of(0,1)", x.of(0, 1), 60);
        due("of(0,2)", x.of(0, 2), 30);
        due("the vow stays", x.of(0, 5), 128);
        due("earned", x.count(4), 0);
        due("sales", x.count(3), 0);
        due("laws stay", x.count(2), 2);
        due("feuds stay", x.count(5), 1);
        due("again(0)", x.again(0), false);
        due("parts", x.parts(0, 0), 0);
        due("parts", x.parts(0, 3), 720);
        due("parts of a step that is gone", x.parts(2, 0), -1);
    }

    private static void lawsRight() {
        promise = "5";
        StairsInSteps x = new StairsInSteps();
        String[] right = {
            "a", "999", "0", "000", "((((a))))", "(a)*(b-a)".replace('b', 'r'), "--a", "a---r", "-(-a)", "a<r", "(a<r)<s", "a<(r<s)",
            "a*-r", "a/-0", "(a<r)=(s>w)", "x+l+j", Tell.times("-", 39) + "a", Tell.times("(a)+", 9) + "(a)",
        };
        for (String text : right) {
            x = new StairsInSteps();
            due("law(0) of " + text, Tell.law(x, 0, text), 0);
            due("law(1) of " + text, Tell.law(x, 1, text), 0);
            due("count(2)", x.count(2), 3);
            due("count(7)", x.count(7), 0);
        }
        due("law(0) of nothing", Tell.law(x, 0, ""), 0);
        due("count(2)", x.count(2), 2);
        due("law(1) of nothing", Tell.law(x, 1, ""), 0);
        due("count(2)", x.count(2), 0);
    }

    private static void lawsWrong() {
        promise = "5, faults";
        StairsInSteps x = new StairsInSteps();
        String[] texts = {
            "b", "+a", "a+", "a b", "()", "(a", "a)", "(a))", "(((((", "1000", "a<r<s", "a<r+s=w", "(a<r>s)", "a<", "-", "a**r", "1a", "a1",
            "aa", "(a)(r)", "a(", "1(", ")", Tell.times("-", 40), Tell.times("-", 41), Tell.times("a+", 20), Tell.times("a+", 19) + "a)",
            Tell.times("a+", 19) + "aa", Tell.times("a+", 19) + "aaa", Tell.times("a+", 19) + "a+a", Tell.times("a+", 19) + "10000", Tell.times("a+", 19) + "ab",
            Tell.times("a+", 20) + "a", Tell.times("a+", 19) + "+" + "a", Tell.times("(a)+", 9) + "(a)*", "a" + (char) 233, "\0", "A",
        };
        int[] faults = {
            0, 0, 2, 1, 1, 2, 1, 3, 4, 3, 3, 5, 4, 2, 1, 2, 1, 1,
            1, 3, 1, 1, 0, 40, 40, 40, 39,
            39, 39, 40, 40, 39,
            40, 38, 40, 1, 0, 0,
        };
        for (int i = 0; i < texts.length; i++) {
            x = new StairsInSteps();
            due("law(0) of " + texts[i], Tell.law(x, 0, texts[i]), -1 - faults[i]);
            due("count(7)", x.count(7), 0);
        }
        due("count(2)", x.count(2), 0);
        due("law(0)", Tell.law(x, 0, "a"), 0);
        due("a wrong one leaves it", Tell.law(x, 0, "a+"), -3);
        due("count(2)", x.count(2), 1);
        due("law(2) asked first", Tell.law(x, 2, "a+"), -100);
        due("its text is gone", x.count(7), 0);
        due("law(-1)", Tell.law(x, -1, ""), -100);
        due("count(2)", x.count(2), 1);
    }

    /** One pilgrim on the ground ahead of a step with RISE 5, STATE 7, ASKS 3, a WIDOW's. */
    private static int worth(String text) {
        StairsInSteps x = Tell.with("5,7,3@0w*2");
        x.pilgrim(100, 100, 3, 4);
        due("law of " + text, Tell.law(x, 0, text), 0);
        return x.costs(0, 0);
    }

    private static void lawsWorth() {
        promise = "5, worth";
        String[] texts = {
            "a", "r", "s", "w", "x", "l", "j", "7", "1+2*3", "(1+2)*3", "10-3-2", "20/3/2", "20/3*2", "2*20/3", "7/0", "0-7/2+9",
            "-7/2+9", "-a*-2", "--a", "-a", "a-r", "98+5", "3<5", "5<3", "3>3", "3=3", "1+1=2", "2<1+2", "a*r-s", "9-(2-(3-(1-2)))",
            "999*999*999*999/999", "(a<r)*40", "-3<-2", "0-1/2", "---2+9", "5/-2+9", "999*999*999", "a=3", "w*50+l", "2*(3<4)+1",
        };
        int[] due = {
            3, 5, 7, 1, 0, 4, 0, 7, 7, 9, 5, 3, 12, 13, 0, 6,
            6, 6, 3, 0, 0, 99, 1, 0, 0, 1, 1, 1, 8, 11,
            clamp(999 * 999 * 999 * 999 / 999), 40, 1, 0, 7, 7, clamp(999 * 999 * 999), 1, 54, 3,
        };
        for (int i = 0; i < texts.length; i++) {
            due("worth of " + texts[i], worth(texts[i]), due[i]);
        }
        StairsInSteps x = Tell.with("5,7,3@0;5,7,4@1;6,8,5@2;5,9,6@0w");
        x.pilgrim(120, 500, 3, 10);
        due("no law, leapt ones are free", x.costs(0, 2), 5);
        x.feud(0, 1, true);
        x.feud(2, 0, true);
        Tell.law(x, 0, "x*10+j");
        Tell.law(x, 1, "x*20+a");
        due("from the ground no feud", x.costs(0, 2), 2 + 3 + 4);
        dueRow(x, 16 * 20 / 10 + 1 + 10, 2);
        due("tread", x.tread(0, 0), 0);
        due("feud with the step come to", x.costs(0, 1), 10);
        due("feud with the one leapt over, too", x.costs(0, 2), 10 + 1 + 20 + 4);
        due("two leapt over", x.costs(0, 3), 2 + 20 + 4 + 20 + 5);
        Tell.law(x, 0, "");
        due("a widow's asks nothing without a law", x.costs(0, 3), 20 + 4 + 20 + 5);
        Tell.law(x, 0, "a");
        due("with a law it does", x.costs(0, 3), 6 + 20 + 4 + 20 + 5);
    }

    private static int clamp(int v) {
        return Math.max(0, Math.min(99, v));
    }

    private static void stepAndSet() {
        promise = "6, 7";
        StairsInSteps x = Tell.with("5,7,3@2w;6,8,4@3");
        int[] first = {5, 7, 3, 1, 2};
        int[] second = {6, 8, 4, 0, 3};
        for (int what = 0; what < 5; what++) {
            due("step(0," + what + ")", x.step(0, what), first[what]);
            due("step(1," + what + ")", x.step(1, what), second[what]);
        }
        due("step(2,0)", stepThrows(x, 2, 0), true);
        due("step(-1,0)", stepThrows(x, -1, 0), true);
        due("step(0,5)", stepThrows(x, 0, 5), true);
        due("step(0,-1)", stepThrows(x, 0, -1), true);
        due("set(0,0,20)", x.set(0, 0, 20), 3);
        due("set(0,0,0)", x.set(0, 0, 0), 20);
        due("set(1,1,0)", x.set(1, 1, 0), 8);
        due("set(1,1,9)", x.set(1, 1, 9), 0);
        due("set(0,0,21)", x.set(0, 0, 21), -1);
        due("set(0,0,-1)", x.set(0, 0, -1), -1);
        due("set(0,1,10)", x.set(0, 1, 10), -1);
        due("set(0,1,-1)", x.set(0, 1, -1), -1);
        due("set(0,2,1)", x.set(0, 2, 1), -1);
        due("set(0,-1,1)", x.set(0, -1, 1), -1);
        due("set(2,0,1)", x.set(2, 0, 1), -1);
        due("set(-1,0,1)", x.set(-1, 0, 1), -1);
        due("asks", x.step(0, 2), 0);
        due("state", x.step(1, 1), 9);
        due("state", x.step(0, 1), 7);
        x.sells(0, 2, 5, 1, 2);
        due("of equal ones the first is main", x.step(0, 4), 2);
        x.sells(0, 2, 1, 1, 9);
        due("main", x.step(0, 4), 5);
    }

    private static void sheet() {
        promise = "8";
        StairsInSteps x = Tell.with("5,7,3@0*4");
        due("ints", x.sheet(2, 3, 5, 9), 5 + 14 + 20);
        due("the last asks nothing", x.step(3, 2), 0);
        due("more than there are", x.sheet(2, 24, 1, 1), 1 + 2 + 3 + 4);
        due("bytes with their sign", x.sheet(0, 4, 120, 7), 20 + 20 + 0 + 0);
        due("bytes go round", x.sheet(0, 2, 256 + 7, 256), 14);
        due("shorts", x.sheet(1, 2, 65536 + 3, 1), 7);
        due("shorts with their sign", x.sheet(1, 2, 32767, 1), 20);
        due("ints go round", x.sheet(2, 2, Integer.MAX_VALUE, 1), 20);
        due("below 0", x.sheet(2, 4, -3, 2), 0 + 0 + 1 + 3);
        due("n below 0", x.sheet(0, -1, 1, 1), -2);
        due("n below 0", x.sheet(1, -9, 1, 1), -2);
        due("n below 0", x.sheet(2, -1, 1, 1), -2);
        due("nothing changed", x.step(3, 2), 3);
        due("n above 24", x.sheet(2, 25, 1, 1), -1);
        due("n above 24 of a missing one", x.sheet(3, 25, 1, 1), -1);
        due("another kind", x.sheet(4, 1, 1, 1), -1);
        due("another kind first", x.sheet(-1, -1, 1, 1), -1);
        due("nothing changed", x.step(3, 2), 3);
        due("missing", x.sheet(3, -1, 1, 1), -3);
        due("all 0", x.step(3, 2) + x.step(2, 2), 0);
        due("no entries", x.sheet(2, 0, 9, 9), 0);
    }

    private static void feudAndWears() {
        promise = "9, 10";
        StairsInSteps x = Tell.with("5,7,3@0;5,2,3@1");
        due("feud", x.feud(0, 7, true), true);
        due("feud again", x.feud(7, 0, true), true);
        due("count(5)", x.count(5), 1);
        due("like ones", x.feud(3, 3, true), false);
        due("no such", x.feud(8, 3, true), false);
        due("no such", x.feud(3, -1, true), false);
        due("count(5)", x.count(5), 1);
        due("not", x.feud(0, 7, false), true);
        due("count(5)", x.count(5), 0);
        due("wears(0)", x.wears(0), 9);
        due("wears(3)", x.wears(3), 4);
        due("0 at least", x.step(1, 1), 0);
        due("wears(-1)", x.wears(-1), -1);
        due("wears(10)", x.wears(10), -1);
        due("state", x.step(0, 1), 4);
        due("wears(9)", x.wears(9), 0);
    }

    private static void pilgrimAndVow() {
        promise = "11, 12";
        StairsInSteps x = new StairsInSteps();
        int[][] wrongOnes = {{0, 0, 1, 0}, {121, 0, 1, 0}, {1, -1, 1, 0}, {1, 1000, 1, 0}, {1, 0, 0, 0}, {1, 0, 4, 0}, {1, 0, 1, -1}, {1, 0, 1, 51}};
        for (int[] one : wrongOnes) {
            due("pilgrim", x.pilgrim(one[0], one[1], one[2], one[3]), -1);
        }
        due("least", x.pilgrim(1, 0, 1, 0), 0);
        due("most", x.pilgrim(120, 999, 3, 50), 1);
        for (int i = 2; i < 6; i++) {
            due("pilgrim", x.pilgrim(50, 50, 2, 5), i);
        }
        due("a seventh", x.pilgrim(50, 50, 2, 5), -1);
        due("count(1)", x.count(1), 6);
        due("vow", x.vow(0, 255), 0);
        due("vow", x.vow(0, 3), 255);
        due("vow", x.vow(0, 256), -1);
        due("vow", x.vow(0, -1), -1);
        due("vow of none", x.vow(6, 0), -1);
        due("vow of none", x.vow(-1, 0), -1);
        due("of(0,5)", x.of(0, 5), 3);
        due("of(1,5)", x.of(1, 5), 0);
    }

    private static void of() {
        promise = "13";
        StairsInSteps x = Tell.with("5,9,3@0*4");
        x.pilgrim(50, 40, 2, 10);
        x.vow(0, 6);
        x.tread(0, 1);
        int[] due = {1, 50 - 25, 37, 2, 10, 6, 50, 40};
        for (int what = 0; what < 8; what++) {
            due("of(0," + what + ")", x.of(0, what), due[what]);
        }
        due("of(0,8)", ofThrows(x, 0, 8), true);
        due("of(0,-1)", ofThrows(x, 0, -1), true);
        due("of(1,0)", ofThrows(x, 1, 0), true);
        due("of(-1,0)", ofThrows(x, -1, 0), true);
    }

    private static void costs() {
        promise = "14";
        StairsInSteps x = Tell.with("5,9,1@0;7,4,2@0;3,0,4@0;4,9,8@0");
        x.pilgrim(5, 0, 3, 3);
        due("costs", x.costs(0, 0), 1);
        dueRow(x, 6, 0);
        due("costs", x.costs(0, 1), 2);
        dueRow(x, 15 + 5 + 5, 1);
        due("costs", x.costs(0, 2), 4);
        dueRow(x, 19 + 9 + 10, 2);
        due("too far", x.costs(0, 3), -2);
        due("no such step", x.costs(0, 4), -1);
        due("no such step", x.costs(0, -1), -1);
        due("none such", x.costs(1, 0), -1);
        dueRow(x, 19 + 9 + 10, 2);
        x.pilgrim(100, 99, 1, 0);
        x.tread(1, 0);
        due("not above", x.costs(1, 0), -2);
        due("too far", x.costs(1, 2), -2);
        x.vow(1, 1);
        due("whatever the vow", x.costs(1, 1), 2);
    }

    private static void tread() {
        promise = "15, division";
        StairsInSteps x = Tell.with("5,9,7@0;5,9,7@1;5,9,20@2;5,9,0@3");
        x.pilgrim(60, 30, 3, 0);
        Tell.law(x, 1, "j*5");
        x.sells(0, 0, 4, 1, 3);
        x.sells(0, 0, 5, 1, 2);
        // step 0: family 0 has 240, 4 has 240, 5 has 240; 5 coppers are 2, 2, 1
        x.costs(0, 1);
        due("tread(0,1)", x.tread(0, 1), 7 + 5);
        dueRow(x, 15, 1);
        due("of(0,0)", x.of(0, 0), 1);
        due("of(0,1)", x.of(0, 1), 45);
        due("of(0,2)", x.of(0, 2), 18);
        due("earned(0)", x.earned(0), 2);
        due("earned(4)", x.earned(4), 2);
        due("earned(5)", x.earned(5), 1);
        due("earned(1)", x.earned(1), 7);
        due("-2 not above", x.tread(0, 1), -2);
        due("-2 not above", x.tread(0, 0), -2);
        due("NONE", x.tread(0, 4), -1);
        due("NONE", x.tread(1, 0), -1);
        due("-5", x.tread(0, 2), -5);
        x.vow(0, 4);
        due("-3 ahead of -5", x.tread(0, 2), -3);
        x.vow(0, 0);
        due("nothing changed", x.of(0, 2), 18);
        StairsInSteps y = Tell.with("30,9,20@0*2");
        y.pilgrim(29, 19, 1, 0);
        y.vow(0, 1);
        due("-2 first", y.tread(0, 1), -2);
        due("-3 next", y.tread(0, 0), -3);
        y.vow(0, 254);
        due("-4 next", y.tread(0, 0), -4);
        y.pilgrim(30, 19, 1, 0);
        due("-5 last", y.tread(1, 0), -5);
        y.pilgrim(30, 20, 1, 0);
        due("just enough", y.tread(2, 0), 20);
        due("all gone", y.of(2, 1) + y.of(2, 2), 0);
        due("nothing left", y.tread(2, 1), -4);
    }

    private static void rests() {
        promise = "16";
        StairsInSteps x = Tell.with("20,9,7@0;20,9,7@1");
        x.pilgrim(50, 25, 1, 3);
        Tell.law(x, 0, "a+j*50+x*50+l");
        x.feud(0, 1, true);
        due("on the ground", x.rests(0, 1), 0);
        due("as told at most", x.of(0, 1), 50);
        due("tread", x.tread(0, 0), 10);
        due("of(0,1)", x.of(0, 1), 24);
        due("rests", x.rests(0, 30), 10);
        due("as told at most", x.of(0, 1), 50);
        due("purse", x.of(0, 2), 5);
        due("led to its step", x.earned(0), 20);
        due("-5", x.rests(0, 1), -5);
        due("rests(0,0)", x.rests(0, 0), -1);
        due("rests(0,31)", x.rests(0, 31), -1);
        due("none such", x.rests(1, 1), -1);
        due("purse", x.of(0, 2), 5);
    }

    private static void returnsAndEarned() {
        promise = "17, 18";
        StairsInSteps x = Tell.with("20,9,7@0;20,9,7@1;5,9,1@0");
        x.pilgrim(50, 25, 1, 0);
        x.tread(0, 0);
        x.tread(0, 1);
        due("returns", x.returns(0), 1);
        due("ground", x.of(0, 0), -1);
        due("knees", x.of(0, 1), 50);
        due("purse", x.of(0, 2), 11);
        due("from the ground", x.returns(0), -1);
        due("none such", x.returns(1), -1);
        due("earned(0)", x.earned(0), 7);
        dueRow(x, 1440);
        due("earned(1)", x.earned(1), 7);
        dueRow(x, 720);
        due("earned(2)", x.earned(2), 0);
        dueRow(x, 0);
        due("earned(8)", x.earned(8), -1);
        due("earned(-1)", x.earned(-1), -1);
        due("what is told again does not undo it", x.count(4), 14);
    }

    private static void climb() {
        promise = "19";
        StairsInSteps x = Tell.with("2,9,5@0;2,9,1@1;2,9,1@1;2,9,3@2");
        x.pilgrim(60, 99, 2, 0);
        // by 1 and 3 it costs 4, by 1, 2, 3 it costs 5
        due("least cost", x.climb(0), 4);
        dueRow(x, 8 + 10, 2, 1, 3);
        x.pilgrim(17, 99, 2, 0);
        due("knees forbid two leaps", x.climb(1), 5);
        dueRow(x, 8 + 5, 3, 1, 2, 3);
        x.pilgrim(12, 99, 2, 0);
        due("knees forbid all leaps", x.climb(2), 10);
        dueRow(x, 8, 4, 0, 1, 2, 3);
        x.pilgrim(7, 99, 2, 0);
        due("none", x.climb(3), -2);
        dueRow(x, 8, 4, 0, 1, 2, 3);
        x.pilgrim(60, 3, 2, 0);
        due("purse", x.climb(4), -2);
        x.vow(0, 4);
        due("the uppermost is forsworn", x.climb(0), -2);
        x.vow(0, 2);
        due("1 and 2 are forsworn", x.climb(0), -2);
        due("none such", x.climb(5), -1);
        due("none such", x.climb(-1), -1);
        x.tread(1, 0);
        due("from the ground all the same", x.climb(1), 5);
        // equal costs: least effort; equal efforts: fewest moves; then the least row
        StairsInSteps y = Tell.with("1,9,0@0;1,9,0@0;1,4,0@0;1,9,0@0;1,9,0@0");
        y.pilgrim(60, 0, 2, 0);
        due("equal costs", y.climb(0), 0);
        dueRow(y, 10, 4, 0, 1, 3, 4);
        y.set(2, 1, 9);
        y.set(1, 1, 4);
        y.set(3, 1, 4);
        due("equal efforts", y.climb(0), 0);
        dueRow(y, 15, 3, 0, 2, 4);
        StairsInSteps z = Tell.with("1,4,0@0;1,4,0@0;1,9,0@0");
        z.pilgrim(60, 0, 2, 0);
        due("equal moves", z.climb(0), 0);
        dueRow(z, 3 + 10, 2, 0, 2);
    }

    private static void knees() {
        promise = "20";
        StairsInSteps x = Tell.with("2,9,5@0;2,9,1@1;2,9,1@1;2,9,3@2");
        x.pilgrim(1, 99, 2, 0);
        due("whatever knees are", x.knees(0), 8);
        dueRow(x, 10);
        x.pilgrim(1, 9, 2, 0);
        due("purse", x.knees(1), 13);
        dueRow(x, 5);
        x.pilgrim(1, 4, 2, 0);
        due("purse", x.knees(2), 18);
        dueRow(x, 4);
        x.pilgrim(1, 3, 2, 0);
        due("none", x.knees(3), -2);
        x.vow(0, 2);
        due("vow", x.knees(0), -2);
        due("none such", x.knees(4), -1);
        dueRow(x, 4);
        StairsInSteps y = Tell.with("30,9,0@0*5;15,0,0@0;1,9,0@0");
        y.pilgrim(1, 0, 1, 50);
        due("900 + 90 + 9 + 6", y.knees(0), -2);
        y.set(5, 1, 6);
        due("900 + 90 + 3 + 6", y.knees(0), 999);
        y.set(5, 1, 5);
        due("1000", y.knees(0), -2);
    }

    private static void waysAndTrod() {
        promise = "21, 22";
        StairsInSteps x = Tell.with("1,9,0@0*24");
        x.pilgrim(120, 0, 3, 0);
        // 24 = 3 * 8; leaps over 16 steps at most
        due("all ways", x.ways(0, 0), 1389537);
        dueRow(x, 1);
        due("trod(0,0,23)", x.trod(0, 0, 23), 0);
        dueRow(x, 1, 1);
        due("trod(0,0,0): those of 23 steps", x.trod(0, 0, 0), 0);
        dueRow(x, 755476, 1389537);
        due("ways(0,1)", x.ways(0, 1), 0);
        dueRow(x, 0);
        due("trod none", x.trod(0, 1, 0), -2);
        dueRow(x, 0);
        due("cost -1", x.ways(0, -1), -1);
        due("cost 1000", x.ways(0, 1000), -1);
        due("none such", x.ways(1, 0), -1);
        due("trod", x.trod(0, -1, 0), -1);
        due("trod", x.trod(0, 1000, 0), -1);
        due("trod", x.trod(1, 0, 0), -1);
        due("trod", x.trod(0, 0, 24), -1);
        due("trod", x.trod(0, 0, -1), -1);
        dueRow(x, 0);
        StairsInSteps y = Tell.with("1,9,1@0;1,4,1@0;1,9,1@0;1,9,1@0");
        y.pilgrim(20, 9, 2, 0);
        // two leaps over: 1 3, none else of 2; three steps: 0 1 3 with 14, 0 2 3 with 9, 1 2 3 with 14; four: 9
        due("ways(0,2)", y.ways(0, 2), 1);
        due("ways(0,3)", y.ways(0, 3), 3);
        dueRow(y, 1);
        due("trod", y.trod(0, 3, 1), 0);
        dueRow(y, 2, 3);
        due("trod", y.trod(0, 4, 1), 0);
        dueRow(y, 1, 1);
        y.vow(0, 1);
        due("vow", y.ways(0, 3), 0);
        y.vow(0, 0);
        y.sells(2, 0, 1, 9, 9);
        y.vow(0, 2);
        due("vow", y.ways(0, 3), 1);
        due("trod a forsworn one", y.trod(0, 3, 2), 0);
        dueRow(y, 0, 1);
        due("999 above the purse", y.ways(0, 999), 0);
    }

    private static void whoAndNext() {
        promise = "23, 24";
        StairsInSteps x = Tell.with("1,9,2@0;1,9,4@0;1,9,1@0");
        x.pilgrim(20, 9, 1, 0);
        x.pilgrim(20, 9, 2, 0);
        x.pilgrim(20, 4, 3, 0);
        // leap 1: 7; leap 2: 7, 5 (1 2), 3 (0 2); leap 3: 3, 1, but not above 4
        due("who(7,1)", x.who(7, 1), 3);
        due("who(3,0)", x.who(3, 0), 6);
        due("who(5,1)", x.who(5, 1), 2);
        due("who(5,0)", x.who(5, 0), 0);
        due("who(1,2)", x.who(1, 2), 4);
        due("who(0,2)", x.who(0, 2), 0);
        due("who(-1,0)", x.who(-1, 0), -1);
        due("who(1000,0)", x.who(1000, 0), -1);
        due("who(1,3)", x.who(1, 3), -1);
        due("who(999,0)", x.who(999, 0), 0);
        due("next(1,-1)", x.next(1, -1), 3);
        dueRow(x, 8);
        due("next(1,3)", x.next(1, 3), 5);
        dueRow(x, 8);
        due("next(1,5)", x.next(1, 5), 7);
        dueRow(x, 3);
        due("next(1,7)", x.next(1, 7), -2);
        due("next(1,998)", x.next(1, 998), -2);
        due("next(1,999)", x.next(1, 999), -1);
        due("next(1,-2)", x.next(1, -2), -1);
        due("next(3,1)", x.next(3, 1), -1);
        dueRow(x, 3);
        x.pilgrim(7, 9, 2, 0);
        due("knees", x.next(3, -1), 7);
    }

    private static void bears() {
        promise = "25";
        StairsInSteps x = Tell.with("5,9,2@0;5,9,2@0");
        x.pilgrim(20, 9, 2, 40);
        // by both: (5 * (10 + load) / 10) * 2 is 20 at most up to 5 * 21 / 10 = 10; by a leap: 10 * (10 + load) / 10 + 5
        due("bears", x.bears(0), 11);
        dueRow(x, 4);
        due("as it was", x.of(0, 4), 40);
        Tell.law(x, 0, "(l<20)*50");
        x.pilgrim(100, 9, 2, 0);
        due("with less it need not", x.bears(1), 50);
        dueRow(x, 0);
        Tell.law(x, 0, "(l>20)*50+l");
        due("by a leap it is less", x.bears(1), 9);
        dueRow(x, 9);
        Tell.law(x, 0, "50");
        due("with none", x.bears(1), -2);
        due("none such", x.bears(2), -1);
        dueRow(x, 9);
    }

    private static void breaks() {
        promise = "26";
        StairsInSteps x = Tell.with("1,9,5@0;1,9,1@1;1,9,3@2;1,9,0@3");
        x.pilgrim(60, 99, 2, 0);
        due("no vow", x.breaks(0), -2);
        x.vow(0, 1 + 2 + 16);
        // only 2 is left of the lower three: none as it is; without 0: 0 2 3 = 8; without 1: 1 3 = 1 or 1 2 3
        due("breaks", x.breaks(0), 1);
        dueRow(x, 1, -1);
        x.vow(0, 2 + 4 + 32);
        // 0 and then 1 or 2 has to be trodden
        due("breaks", x.breaks(0), 1);
        dueRow(x, 1, -1);
        x.vow(0, 1 + 16);
        due("of equal ones the first", x.breaks(0), 0);
        dueRow(x, 1, 1);
        x.vow(0, 8 + 2);
        due("one is not enough", x.vow(0, 1 + 2 + 4), 10);
        due("with none left out", x.breaks(0), 1);
        x.vow(0, 7 + 8);
        due("the uppermost, too", x.breaks(0), -2);
        due("none such", x.breaks(1), -1);
        due("as it was", x.of(0, 5), 15);
    }

    private static void allWholeShut() {
        promise = "27, 28, 30";
        StairsInSteps x = Tell.with("2,9,5@0;2,3,1@1;2,9,3@2");
        due("nobody", x.all(), 0);
        dueRow(x, 0, 0);
        x.pilgrim(60, 99, 2, 0);
        x.pilgrim(9, 99, 1, 0);
        x.pilgrim(60, 99, 1, 0);
        // 0: by 1, 2: 4, effort 10 + 5 + ... ; 1: 12 is too much; 2: 9 with 12
        due("all()", x.all(), 4 + 9);
        dueRow(x, 2, (4 + 6 + 5 + 2) + 12);
        due("whole(1)", x.whole(1), 1);
        dueRow(x, 1, 9, 6 - 6 - 6);
        due("whole(0)", x.whole(0), 0);
        dueRow(x, 0, 0, 0);
        due("whole(3)", x.whole(3), -1);
        due("whole(-1)", x.whole(-1), -1);
        due("state as it was", x.step(1, 1), 3);
        due("shut(1)", x.shut(1), 1);
        dueRow(x, -1, 8 - 13, (6 + 5) - 29);
        due("shut(2)", x.shut(2), 1);
        dueRow(x, -2, -13, -29);
        due("shut(0)", x.shut(0), 1);
        dueRow(x, -1, -9, -12);
        due("shut(3)", x.shut(3), -1);
        due("shut(-1)", x.shut(-1), -1);
        x.vow(0, 1);
        x.vow(2, 1);
        due("shut what nobody treads", x.shut(0), 0);
        dueRow(x, 0, 0, 0);
    }

    private static void mends() {
        promise = "29";
        StairsInSteps x = Tell.with("7,4,5@0;2,3,1@1");
        x.sells(0, 0, 3, 1, 2);
        due("mends", x.mends(0), 35);
        due("of equal rests the first pays", x.earned(0), -18);
        due("earned(3)", x.earned(3), -17);
        due("whole", x.step(0, 1), 9);
        due("whole already", x.mends(0), 0);
        due("none such", x.mends(2), -1);
        due("none such", x.mends(-1), -1);
        due("count(4)", x.count(4), -35);
    }

    private static void toll() {
        promise = "31";
        StairsInSteps x = Tell.with("1,9,3@0;1,9,3@1;1,9,3@2");
        due("nobody", x.toll(0), 20);
        dueRow(x, 0);
        x.pilgrim(60, 14, 1, 0);
        due("one", x.toll(0), 8);
        dueRow(x, 1);
        x.pilgrim(60, 9, 2, 0);
        due("two", x.toll(1), 8);
        dueRow(x, 2);
        due("the leaper minds", x.toll(2), 6);
        x.pilgrim(60, 0, 3, 0);
        due("with 0 alone", x.toll(2), 0);
        dueRow(x, 3);
        due("none such", x.toll(3), -1);
        due("as it was", x.step(2, 2), 3);
        Tell.law(x, 0, "20-a");
        x.set(1, 0, 20);
        x.set(2, 0, 20);
        // the first pilgrim climbs if 6 or more is asked
        due("as many, not more", x.toll(0), 5);
        dueRow(x, 2);
    }

    private static void peace() {
        promise = "32";
        StairsInSteps x = Tell.with("1,9,1@0;1,9,1@1;1,9,1@2;1,9,1@3");
        x.pilgrim(60, 99, 1, 0);
        due("no feud", x.peace(), -2);
        x.feud(4, 5, true);
        due("the first of equal ones", x.peace(), 45);
        dueRow(x, 4, 1);
        x.feud(6, 5, true);
        x.feud(2, 1, true);
        Tell.law(x, 0, "a+x*(r+10)");
        due("12", x.peace(), 12);
        dueRow(x, 4, 1);
        x.feud(3, 2, true);
        Tell.law(x, 0, "a+x*a*10");
        x.set(3, 0, 2);
        due("23 is dearer", x.peace(), 23);
        dueRow(x, 1 + 1 + 11 + 2, 1);
        due("they stay", x.count(5), 4);
        Tell.law(x, 0, "60-x*60");
        x.feud(0, 1, true);
        x.pilgrim(60, 119, 1, 0);
        // in feuds 0 1, 1 2, 2 3 all but the first are free
        due("as many have one as now", x.peace(), 45);
        dueRow(x, 120, 2);
        Tell.law(x, 0, "30-x*30");
        x.feud(4, 5, false);
        x.feud(5, 6, false);
        x.pilgrim(60, 30, 1, 0);
        due("none leaves as many", x.peace(), -2);
    }

    private static void lamps() {
        promise = "33";
        StairsInSteps x = Tell.with("1,9,1@0*10");
        due("lamps(0)", x.lamps(0), 10);
        dueRow(x, 0, 1, 2, 3, 4, 5, 6, 7, 8, 9);
        due("lamps(1)", x.lamps(1), 4);
        dueRow(x, 1, 4, 7, 9);
        due("lamps(2)", x.lamps(2), 2);
        dueRow(x, 2, 7);
        due("lamps(3)", x.lamps(3), 2);
        dueRow(x, 3, 9);
        due("lamps(4)", x.lamps(4), 2);
        dueRow(x, 4, 9);
        due("lamps(5)", x.lamps(5), 1);
        dueRow(x, 5);
        due("lamps(23)", x.lamps(23), 1);
        dueRow(x, 9);
        due("lamps(24)", x.lamps(24), -1);
        due("lamps(-1)", x.lamps(-1), -1);
        dueRow(x, 9);
        Tell.stairs(x, "1,9,1@0*24");
        due("lamps(0)", x.lamps(0), 24);
        due("the last", x.row(23), 23);
    }

    private static void wouldAndBest() {
        promise = "34, 35";
        StairsInSteps x = Tell.with("1,9,3@0;1,9,3@1;1,9,3@2");
        due("nobody", x.best(0), 0);
        dueRow(x, 0);
        x.pilgrim(60, 99, 1, 0);
        x.pilgrim(60, 14, 2, 0);
        // the second one goes by 0 and 2 while 0 asks 3 at most, then by 1 and 2
        due("would(0,3)", x.would(0, 3), 6);
        due("would(0,4)", x.would(0, 4), 4);
        dueRow(x, 0);
        due("best(0)", x.best(0), 20);
        dueRow(x, 20);
        x.vow(1, 2);
        due("leapt over it gets nothing", x.would(1, 7), 7);
        Tell.law(x, 1, "a");
        due("leapt over it is owed", x.would(1, 7), 14);
        due("as it was", x.step(1, 2), 3);
        due("would(0,21)", x.would(0, 21), -1);
        due("would(0,-1)", x.would(0, -1), -1);
        due("would(3,0)", x.would(3, 0), -1);
        due("best(3)", x.best(3), -1);
        due("best(-1)", x.best(-1), -1);
        StairsInSteps y = Tell.with("1,9,3@0;1,9,3@1;1,9,3@2w");
        Tell.law(y, 1, "a");
        y.pilgrim(60, 17, 1, 0);
        y.pilgrim(60, 11, 2, 0);
        // both pay by 0, 1 and 2 up to 8, one alone up to 14
        due("would(0,8)", y.would(0, 8), 16);
        due("would(0,9)", y.would(0, 9), 9);
        due("best(0)", y.best(0), 8);
        dueRow(y, 16);
        due("of equal ones the least", y.best(2), 0);
        dueRow(y, 0);
        Tell.law(y, 0, "a*0+7");
        due("of equal ones the least", y.best(0), 0);
    }

    private static void market() {
        promise = "36";
        StairsInSteps x = Tell.with("1,9,0@0*2");
        x.pilgrim(60, 10, 1, 0);
        due("market(0)", x.market(0), -1);
        due("market(4)", x.market(4), -1);
        due("market(1)", x.market(1), 1);
        dueRow(x, 0, 10);
        due("done so", x.step(0, 2), 10);
        due("it stands", x.market(1), 0);
        dueRow(x, 1, 10);
        x.set(0, 0, 2);
        due("market(3)", x.market(3), 1);
        dueRow(x, 1, 10);
        x.set(0, 0, 2);
        due("market(2)", x.market(2), 1);
        dueRow(x, 1, 10);
        StairsInSteps y = Tell.with("1,9,5@0w;1,9,0@0");
        y.pilgrim(60, 10, 1, 0);
        due("what is paid as well stays", y.market(3), 1);
        dueRow(y, 1, 15);
        due("asks", y.step(0, 2), 5);
        StairsInSteps z = Tell.with("1,9,7@0*24");
        due("nobody", z.market(3), 0);
        dueRow(z, 1, 168);
    }

    private static void sells() {
        promise = "37, 38";
        StairsInSteps x = Tell.with("1,9,3@0;1,9,3@1");
        due("sells", x.sells(0, 0, 1, 1, 7), 102);
        due("parts", x.parts(0, 0), 618);
        due("parts", x.parts(0, 1), 102);
        due("parts of the other step", x.parts(1, 0), 0);
        int[][] wrongOnes = {
            {2, 0, 1, 1, 2}, {-1, 0, 1, 1, 2}, {0, 8, 1, 1, 2}, {0, -1, 1, 1, 2}, {0, 0, 8, 1, 2}, {0, 0, -1, 1, 2}, {0, 0, 0, 1, 2},
            {0, 0, 1, 0, 2}, {0, 0, 1, -1, 2}, {0, 0, 1, 1, 10}, {0, 0, 1, 10, 10}, {0, 0, 1, 3, 2}, {0, 0, 1, 1, 0}, {0, 0, 1, 0, 0},
            {0, 0, 1, -2, -1}, {0, 5, 1, 1, 1},
        };
        for (int[] one : wrongOnes) {
            due("sells", x.sells(one[0], one[1], one[2], one[3], one[4]), -1);
        }
        due("parts", x.parts(0, 0), 618);
        due("count(3)", x.count(3), 1);
        due("all of it", x.sells(0, 0, 7, 9, 9), 618);
        due("main", x.step(0, 4), 7);
        due("a ninth", x.sells(0, 1, 2, 1, 9), 11);
        due("a ninth", x.sells(0, 2, 3, 1, 9), 1);
        due("none come of it", x.sells(0, 3, 4, 8, 9), -1);
        due("count(3)", x.count(3), 4);
        due("parts(2,0)", x.parts(2, 0), -1);
        due("parts(0,8)", x.parts(0, 8), -1);
        due("parts(-1,0)", x.parts(-1, 0), -1);
        due("parts(0,-1)", x.parts(0, -1), -1);
    }

    private static void dies() {
        promise = "39";
        StairsInSteps x = Tell.with("1,9,3@0;1,9,3@1;1,9,3@0");
        due("dies", x.dies(0, 254), 1440);
        due("parts", x.parts(0, 1), 103);
        due("parts", x.parts(0, 6), 103);
        due("parts", x.parts(0, 7), 102);
        due("parts", x.parts(2, 7), 102);
        due("parts", x.parts(1, 1), 720);
        due("parts", x.parts(0, 0), 0);
        due("one sale", x.count(3), 1);
        due("has nothing", x.dies(0, 2), 0);
        due("no sale", x.count(3), 1);
        due("no heirs", x.dies(1, 0), -1);
        due("256", x.dies(1, 256), -1);
        due("below 0", x.dies(1, -1), -1);
        due("its own heir", x.dies(1, 3), -1);
        due("none such", x.dies(8, 1), -1);
        due("none such", x.dies(-1, 1), -1);
        due("one heir", x.dies(1, 128), 103 + 720 + 103);
        due("parts", x.parts(1, 7), 720);
        due("undo", x.undo(), 1);
        due("parts", x.parts(1, 7), 0);
        due("undo", x.undo(), 0);
        due("parts", x.parts(2, 0), 720);
        due("main", x.step(2, 4), 0);
    }

    private static void undo() {
        promise = "40";
        StairsInSteps x = Tell.with("1,9,3@0*2");
        due("nothing", x.undo(), -1);
        int[] left = new int[10];
        for (int i = 0; i < 10; i++) {
            left[i] = x.parts(0, 0);
            x.sells(0, 0, 1, 1, 9);
        }
        due("8 are kept", x.count(3), 8);
        for (int i = 7; i >= 0; i--) {
            due("undo", x.undo(), i);
            due("parts", x.parts(0, 0), left[i + 2]);
        }
        due("undo", x.undo(), -1);
        due("parts", x.parts(0, 0), left[2]);
        due("sells", x.sells(1, 0, 1, 1, 1), 720);
        due("undo", x.undo(), 0);
        due("parts", x.parts(1, 0), 720);
    }

    private static void rail() {
        promise = "41";
        StairsInSteps x = Tell.with("1,9,3@0;1,9,3@1*2");
        due("rail(10)", x.rail(10), 2);
        dueRow(x, 3, 7, 0, 0, 0, 0, 0, 0);
        due("rail(1)", x.rail(1), 1);
        dueRow(x, 0, 1, 0, 0, 0, 0, 0, 0);
        due("rail(0)", x.rail(0), 0);
        dueRow(x, 0, 0, 0, 0, 0, 0, 0, 0);
        due("rail(9999)", x.rail(9999), 2);
        dueRow(x, 3333, 6666, 0, 0, 0, 0, 0, 0);
        due("rail(10000)", x.rail(10000), -1);
        due("rail(-1)", x.rail(-1), -1);
        due("nothing is taken", x.count(4), 0);
        x.dies(1, 4 + 8);
        due("equal rests: the first", x.rail(5), 3);
        dueRow(x, 2, 0, 2, 1, 0, 0, 0, 0);
        Tell.stairs(x, "1,9,3@7*24");
        due("rail(9999)", x.rail(9999), 1);
        dueRow(x, 0, 0, 0, 0, 0, 0, 0, 9999);
    }

    private static void rules() {
        promise = "42";
        StairsInSteps x = Tell.with("1,9,3@0*2;1,9,3@1;1,9,3@2");
        due("one has all", x.rules(0, 3), 1);
        dueRow(x, 4);
        x.sells(0, 0, 5, 1, 2);
        due("half is not more than half", x.rules(0, 0), 2);
        dueRow(x, 1 + 32);
        x.sells(0, 5, 3, 1, 3);
        due("360 and the least of others", x.rules(0, 0), 2);
        dueRow(x, 1 + 8);
        due("two of four are not enough", x.rules(1, 99), 2);
        dueRow(x, 1 + 2);
        x.dies(2, 1);
        due("three are", x.rules(1, -5), 1);
        dueRow(x, 1);
        due("rules(0,4)", x.rules(0, 4), -1);
        due("rules(0,-1)", x.rules(0, -1), -1);
        due("rules(2,0)", x.rules(2, 0), -1);
        due("rules(-1,0)", x.rules(-1, 0), -1);
        dueRow(x, 1);
        for (int i = 1; i < 8; i++) {
            x.sells(2, 1, i == 1 ? 0 : i, 1, 10 - i);
        }
        due("160 and seven times 80", x.rules(0, 2), 4);
        dueRow(x, 15);
    }

    private static void feast() {
        promise = "43";
        StairsInSteps x = Tell.with("10,9,0@0*3");
        due("nobody", x.feast(1), 0);
        dueRow(x, 0, -1, 0);
        x.pilgrim(60, 20, 1, 0);
        x.pilgrim(60, 20, 1, 0);
        x.pilgrim(1, 20, 1, 0);
        x.pilgrim(60, 20, 1, 0);
        due("feast(1)", x.feast(1), 5);
        dueRow(x, 2, 3, 1);
        due("feast(2)", x.feast(2), 4);
        dueRow(x, 1, 3, 2);
        due("feast(3)", x.feast(3), 3);
        dueRow(x, 0, -1, 3);
        due("feast(6)", x.feast(6), 3);
        due("feast(0)", x.feast(0), -1);
        due("feast(7)", x.feast(7), -1);
        dueRow(x, 0, -1, 3);
        due("nobody moved", x.of(0, 0), -1);
        // who leaps passes by
        StairsInSteps y = Tell.with("1,9,5@0;1,9,0@0;1,9,5@0;1,9,0@0");
        y.pilgrim(60, 99, 1, 0);
        y.pilgrim(60, 99, 2, 0);
        y.pilgrim(60, 99, 2, 0);
        // minute 1: 0 to 0, 1 to 1, 2 waits; 2: 1 is up, 0 to 1, 2 waits; 3: 0 to 2, 2 to 1; 4: both are up
        due("feast(1)", y.feast(1), 4);
        dueRow(y, 2, 2, 1);
        due("feast(2)", y.feast(2), 4);
        dueRow(y, 0, -1, 2);
        y.tread(0, 0);
        due("from the ground", y.feast(1), 4);
        due("where it is", y.of(0, 0), 0);
    }

    private static void jam() {
        promise = "44";
        StairsInSteps x = Tell.with("1,9,5@0;1,9,0@0;1,9,5@0;1,9,0@0");
        due("nobody", x.jam(), -2);
        x.pilgrim(60, 99, 1, 0);
        due("alone", x.jam(), -2);
        x.pilgrim(60, 99, 2, 0);
        x.feast(2);
        due("nobody waits", x.jam(), -2);
        dueRow(x, 0, -1, 1);
        x.pilgrim(60, 99, 2, 0);
        due("jam", x.jam(), 1);
        dueRow(x, 2);
        StairsInSteps y = Tell.with("1,9,0@0*3");
        y.pilgrim(60, 99, 1, 0);
        y.pilgrim(60, 99, 1, 0);
        due("jam", y.jam(), 0);
        dueRow(y, 1);
    }

    private static void keepAndAgain() {
        promise = "45, 46";
        StairsInSteps x = Tell.with("5,9,3@0;5,8,3@1;5,9,3@2");
        x.pilgrim(60, 30, 2, 0);
        due("nothing kept", x.again(0), false);
        due("keep(2)", x.keep(2), false);
        due("keep(-1)", x.keep(-1), false);
        x.tread(0, 0);
        x.sells(0, 0, 1, 1, 2);
        due("keep(0)", x.keep(0), true);
        due("sales are not kept, nor forgotten", x.count(3), 1);
        x.set(0, 0, 20);
        x.wears(5);
        x.sells(1, 1, 2, 1, 1);
        x.tread(0, 1);
        x.vow(0, 9);
        x.feud(1, 2, true);
        Tell.law(x, 0, "a");
        due("pilgrim", x.pilgrim(50, 20, 2, 0), 1);
        x.tread(1, 1);
        due("keep(1)", x.keep(1), true);
        x.earned(0);
        due("again(0)", x.again(0), true);
        dueRow(x, 360);
        due("asks", x.step(0, 2), 3);
        due("state", x.step(1, 1), 8);
        due("parts", x.parts(1, 1), 720);
        due("main", x.step(1, 4), 1);
        due("parts", x.parts(0, 1), 360);
        due("where", x.of(0, 0), 0);
        due("knees", x.of(0, 1), 55);
        due("purse", x.of(0, 2), 27);
        due("earned", x.count(4), 3);
        due("sales are forgotten", x.count(3), 0);
        due("undo", x.undo(), -1);
        due("the vow is not kept", x.of(0, 5), 9);
        due("nor feuds", x.count(5), 1);
        due("nor laws", x.count(2), 1);
        due("one told since stays", x.of(1, 0), 1);
        due("again(1)", x.again(1), true);
        due("asks", x.step(0, 2), 20);
        due("state", x.step(1, 1), 3);
        due("main", x.step(1, 4), 2);
        due("where", x.of(0, 0), 1);
        due("again(0), once more", x.again(0), true);
        due("where", x.of(0, 0), 0);
        due("again(2)", x.again(2), false);
        due("again(-1)", x.again(-1), false);
        due("wrong stairs", Tell.stairs(x, "5"), -2);
        due("again(0)", x.again(0), true);
        due("other stairs", Tell.stairs(x, "5,9,3@0;5,8,3@1;5,9,3@2"), 3);
        due("again(0)", x.again(0), false);
        due("again(1)", x.again(1), false);
        due("keep(1)", x.keep(1), true);
        due("again(0)", x.again(0), false);
        due("again(1)", x.again(1), true);
    }

    private static void countAndRow() {
        promise = "47, 48";
        StairsInSteps x = Tell.with("5,9,3@0;5,8,3@1;5,9,3@2");
        x.pilgrim(60, 30, 2, 0);
        x.tread(0, 0);
        x.sells(0, 0, 1, 1, 2);
        x.feud(0, 1, true);
        x.feud(5, 1, true);
        Tell.law(x, 1, "3");
        x.rail(3);
        x.sign(0);
        int[] due = {3, 1, 2, 1, 3, 2, 8, 4};
        for (int what = 0; what < 8; what++) {
            due("count(" + what + ")", x.count(what), due[what]);
        }
        due("count(8)", x.count(8), -1);
        due("count(-1)", x.count(-1), -1);
        due("row(0)", rowThrows(x, 0), false);
        due("row(7)", rowThrows(x, 7), false);
        due("row(8)", rowThrows(x, 8), true);
        due("row(-1)", rowThrows(x, -1), true);
        due("row of a new one", rowThrows(new StairsInSteps(), 0), true);
        due("row", rowThrows(x, Integer.MIN_VALUE), true);
        due("row", rowThrows(x, Integer.MAX_VALUE), true);
    }

    private static void noSteps() {
        promise = "no steps";
        StairsInSteps x = new StairsInSteps();
        x.pilgrim(60, 30, 2, 0);
        x.vow(0, 3);
        x.feud(2, 4, true);
        due("step", stepThrows(x, 0, 0), true);
        due("set", x.set(0, 0, 0), -1);
        due("sheet", x.sheet(2, 3, 1, 1), 0);
        due("sheet", x.sheet(3, 3, 1, 1), -3);
        due("wears", x.wears(1), 0);
        due("costs", x.costs(0, 0), -1);
        due("tread", x.tread(0, 0), -1);
        due("rests", x.rests(0, 5), 0);
        due("climb", x.climb(0), -1);
        due("knees", x.knees(0), -1);
        due("trod", x.trod(0, 0, 0), -1);
        due("who", x.who(0, 0), -1);
        due("next", x.next(0, 0), -1);
        due("bears", x.bears(0), -1);
        due("breaks", x.breaks(0), -1);
        due("count(6)", x.count(6), 0);
        due("ways: there is no climb", x.ways(0, 0), 0);
        dueRow(x, 0);
        due("all", x.all(), 0);
        dueRow(x, 0, 0);
        due("whole", x.whole(0), -1);
        due("mends", x.mends(0), -1);
        due("shut", x.shut(0), -1);
        due("toll", x.toll(0), -1);
        due("peace", x.peace(), 24);
        dueRow(x, 0, 0);
        due("lamps", x.lamps(0), -1);
        due("would", x.would(0, 0), -1);
        due("best", x.best(0), -1);
        due("market", x.market(1), -1);
        due("parts", x.parts(0, 0), -1);
        due("sells", x.sells(0, 0, 1, 1, 1), -1);
        due("dies", x.dies(0, 2), 0);
        due("undo", x.undo(), -1);
        due("rail", x.rail(1), -1);
        due("rules", x.rules(1, 0), -1);
        due("rules", x.rules(0, 0), -1);
        due("feast", x.feast(1), -1);
        due("jam", x.jam(), -2);
        due("earned", x.earned(0), 0);
        dueRow(x, 0);
        due("keep", x.keep(0), true);
        due("again", x.again(0), true);
        due("stairs", Tell.stairs(x, "1,9,1@0*2"), 2);
        due("again", x.again(0), false);
    }

    /** All that can be asked of an object, in one text. */
    private static String picture(StairsInSteps x) {
        StringBuilder sb = new StringBuilder();
        for (int what = 0; what < 8; what++) {
            sb.append(x.count(what)).append(' ');
        }
        for (int i = 0; i < x.count(6); i++) {
            sb.append(x.row(i)).append(' ');
        }
        for (int step = 0; step < x.count(0); step++) {
            for (int what = 0; what < 5; what++) {
                sb.append(x.step(step, what)).append(' ');
            }
            for (int family = 0; family < 8; family++) {
                sb.append(x.parts(step, family)).append(' ');
            }
        }
        for (int pilgrim = 0; pilgrim < x.count(1); pilgrim++) {
            for (int what = 0; what < 8; what++) {
                sb.append(x.of(pilgrim, what)).append(' ');
            }
        }
        return sb.toString();
    }

    private static void refusedChangesNothing() {
        promise = "refused";
        StairsInSteps x = Tell.with("5,9,3@0;5,8,3@1w;5,9,3@2");
        x.pilgrim(60, 30, 2, 0);
        x.pilgrim(10, 30, 1, 0);
        x.tread(0, 1);
        x.sells(0, 0, 1, 1, 2);
        x.feud(0, 1, true);
        x.vow(0, 64);
        x.rail(77);
        x.sign(5);
        String before = picture(x);
        int[] odd = {-1, 24, 1000, Integer.MIN_VALUE, Integer.MAX_VALUE};
        for (int v : odd) {
            x.end(v == 24 ? 5 : v);
            x.set(v, 0, 0);
            x.set(0, v, 0);
            x.set(0, 0, v);
            x.sheet(v, 0, 0, 0);
            x.sheet(2, v == 24 ? -2 : v, 0, 0);
            x.feud(v, 0, true);
            x.feud(0, v, false);
            x.wears(v);
            x.pilgrim(v == 24 ? 0 : v, 0, 1, 0);
            x.pilgrim(1, v == 24 ? -2 : v, 1, 0);
            x.pilgrim(1, 1, v, 0);
            x.pilgrim(1, 1, 1, v == 24 ? 51 : v);
            x.vow(v, 0);
            x.vow(0, v == 24 ? 256 : v);
            x.costs(v, 0);
            x.costs(0, v);
            x.tread(v, 0);
            x.tread(0, v);
            x.rests(v, 1);
            x.rests(0, v == 24 ? 31 : v);
            x.returns(v);
            x.earned(v);
            x.climb(v);
            x.climb(1);
            x.knees(v);
            x.ways(v, 0);
            x.ways(0, v == 24 ? -2 : v);
            x.trod(v, 0, 0);
            x.trod(0, v == 24 ? -2 : v, 0);
            x.trod(0, 0, v);
            x.trod(0, 777, 0);
            x.who(v == 24 ? -2 : v, 0);
            x.who(3, v);
            x.next(v, 0);
            x.next(0, v == -1 || v == 24 ? 998 : v);
            x.bears(v);
            x.breaks(v);
            x.breaks(1);
            x.whole(v);
            x.mends(v);
            x.shut(v);
            x.toll(v);
            x.lamps(v);
            x.would(v, 0);
            x.would(0, v);
            x.best(v);
            x.market(v);
            x.parts(v, 0);
            x.parts(0, v);
            x.sells(v, 0, 1, 1, 1);
            x.sells(0, v, 1, 1, 1);
            x.sells(0, 0, v, 1, 1);
            x.sells(0, 0, 1, v, 1);
            x.sells(0, 0, 1, 1, v);
            x.dies(v, 1);
            x.dies(0, v == 24 ? 1 : v);
            x.rail(v == 24 || v == 1000 ? 10000 : v);
            x.rules(v, 0);
            x.rules(0, v);
            x.feast(v);
            x.keep(v);
            x.again(v);
            x.again(0);
            x.count(v);
            due("steps", stepThrows(x, v, 0) && stepThrows(x, 0, v), true);
            due("of", ofThrows(x, v, 0) && ofThrows(x, 0, v), true);
            due("row", rowThrows(x, v), true);
            String after = picture(x);
            if (!after.equals(before)) {
                wrong++;
                System.out.println(promise + ": with " + v + "\n  " + before + "\n  became\n  " + after);
            }
        }
    }
}
