/** Promises 1 to 10, sentence by sentence: the stairs. */
public final class StairsBoundsTest {
    private static final int[] FAR_OFF = {-1000, 1000, Integer.MIN_VALUE, Integer.MAX_VALUE};

    public static void main(String[] args) {
        newObject();
        sign();
        end();
        stairsAnew();
        stairsAnswer();
        stairsSigns();
        stairsEndTooEarly();
        stairsMoreThan76();
        stairsNumbers();
        stairsBehind24();
        stairsFewerThan2();
        law();
        lawSigns();
        lawMoreThan40();
        lawNoSuch();
        step();
        set();
        sheet();
        sheetRefused();
        feud();
        wears();
        Due.finish(1, 10);
    }

    private static void newObject() {
        Due.sentence(1, "No STEPS, no PILGRIMS");
        StairsInSteps x = new StairsInSteps();
        for (int what = 0; what < 8; what++) {
            Due.is("count(" + what + ")", x.count(what), 0);
        }
        Due.noSuch("no STEP", () -> x.step(0, 0));
        Due.noSuch("no PILGRIM", () -> x.of(0, 0));
        Due.noSuch("no number of the ROW", () -> x.row(0));
        Due.is("nothing kept", x.again(0) || x.again(1), false);
        Due.is("no SALE", x.undo(), -1);
    }

    private static void sign() {
        Due.sentence(2, "Four signs come behind THE TEXT, of v the highest byte first: how many it has");
        StairsInSteps x = new StairsInSteps();
        Due.is("the first four", x.sign('5' << 24 | ',' << 16 | '9' << 8 | ','), 4);
        Due.is("four more", x.sign('2' << 24 | '@' << 16 | '3' << 8 | '*'), 8);
        Due.is("four more", x.sign('1' << 24 | '2' << 16 | ' ' << 8 | ' '), 12);
        x.end(10);
        Due.is("5,9,2@3*12", x.stairs(), 12);
        Due.is("RISE", x.step(11, 0), 5);
        Due.is("FAMILY", x.step(0, 4), 3);
        // signs above 127 are signs, too: they can't stand anywhere
        Due.is("all bits", x.sign(-1), 4);
        Due.is("a sign 255", x.stairs(), -1);
        Due.is("the lowest bit of all", x.sign(Integer.MIN_VALUE), 4);
        Due.is("a sign 128", x.law(0), -1);
        Due.sentence(2, "Refused: there would be more than 80");
        for (int i = 1; i <= 20; i++) {
            Due.is("sign", x.sign('-' << 24 | '-' << 16 | '-' << 8 | '-'), 4 * i);
        }
        Due.is("80 and 4", x.sign(0), -1);
        Due.is("80 stay", x.count(7), 80);
        for (int n = 79; n >= 77; n--) {
            x.end(n);
            Due.is("" + n + " and 4", x.sign(0), -1);
            Due.is("" + n + " stay", x.count(7), n);
        }
        x.end(76);
        Due.is("76 and 4", x.sign(0), 80);
        Twins.refused("sign", -1, () -> {
            StairsInSteps y = Twins.rich();
            Tell.text(y, Tell.times("5,9,3@0;", 9) + "5,9,3");
            return y;
        }, y -> y.sign('@' << 24));
    }

    private static void end() {
        Due.sentence(3, "THE TEXT has its first n signs alone: true");
        StairsInSteps x = new StairsInSteps();
        Due.is("of none none", x.end(0), true);
        Tell.text(x, "5,9,3@0*24");
        Due.is("all", x.end(10), true);
        Due.is("10", x.count(7), 10);
        Due.is("fewer", x.end(9), true);
        Due.is("9", x.count(7), 9);
        Due.is("the first ones", x.stairs(), 2);
        Tell.text(x, "a+r");
        Due.is("none", x.end(0), true);
        Due.is("0", x.count(7), 0);
        x.sign('7' << 24);
        x.end(1);
        Due.is("what was cut off is gone", x.law(0), 0);
        Due.sentence(3, "false if it has not so many, or n is below 0");
        Twins.refused("one more than it has", 0, y -> y.end(10) ? 1 : 0);
        Twins.refused("below 0", 0, y -> y.end(-1) ? 1 : 0);
        for (int n : FAR_OFF) {
            Twins.refused("end(" + n + ")", 0, y -> y.end(n) ? 1 : 0);
        }
        Due.is("of a new one", new StairsInSteps().end(1), false);
    }

    private static void stairsAnew() {
        Due.sentence(4, "those there were are gone");
        StairsInSteps x = Twins.rich();
        Due.is("two", Tell.stairs(x, "7,6,5@4;8,3,2@1w"), 2);
        int[][] due = {{7, 6, 5, 0, 4}, {8, 3, 2, 1, 1}};
        for (int step = 0; step < 2; step++) {
            for (int what = 0; what < 5; what++) {
                Due.is("step", x.step(step, what), due[step][what]);
            }
            for (int family = 0; family < 8; family++) {
                Due.is("parts", x.parts(step, family), family == due[step][4] ? 720 : 0);
            }
        }
        Due.noSuch("the third", () -> x.step(2, 0));
        Due.is("all is of the new ones", x.earned(0), 0);
        Due.row(x, 0);
        Due.sentence(4, "PILGRIMS are as told, on the ground, nothing is EARNED, SALES are forgotten");
        Due.is("PILGRIMS", x.count(1), 2);
        int[][] told = {{-1, 60, 40, 2, 0, 0, 60, 40}, {-1, 50, 20, 3, 10, 64, 50, 20}};
        for (int pilgrim = 0; pilgrim < 2; pilgrim++) {
            for (int what = 0; what < 8; what++) {
                Due.is("of(" + pilgrim + ", " + what + ")", x.of(pilgrim, what), told[pilgrim][what]);
            }
        }
        for (int family = 0; family < 8; family++) {
            Due.is("earned", x.earned(family), 0);
        }
        Due.is("all", x.count(4), 0);
        Due.is("SALES", x.count(3), 0);
        Due.is("undo", x.undo(), -1);
        Due.is("LAWS stay", x.count(2), 3);
        Due.is("FEUDS stay", x.count(5), 2);
    }

    private static void stairsAnswer() {
        Due.sentence(4, "how many STEPS");
        StairsInSteps x = new StairsInSteps();
        for (int n = 2; n <= 24; n++) {
            Due.is("*" + n, Tell.stairs(x, "5,9,3@0*" + n), n);
            Due.is("count", x.count(0), n);
            Due.is("THE TEXT is gone", x.count(7), 0);
        }
        Due.is("2 and 1 and 3", Tell.stairs(x, "5,9,3@0*2;5,9,3@0;5,9,3@0*3"), 6);
    }

    /** What can stand behind a beginning; of a digit that makes a number too small or too great it is as if it could not. */
    private static final String[][] STAIRS_GO_ON = {
        {"", "123456789"},
        {"1", "0123456789,"},
        {"3", "0,"},
        {"4", ","},
        {"10", ","},
        {"1,", "0123456789"},
        {"1,0", "0123456789,"},
        {"1,1", ","},
        {"1,09", ","},
        {"1,9,", "0123456789"},
        {"1,9,0", "0123456789@"},
        {"1,9,1", "0123456789@"},
        {"1,9,2", "0@"},
        {"1,9,3", "@"},
        {"1,9,20", "@"},
        {"1,9,1@", "01234567"},
        {"1,9,1@0", "w*;"},
        {"1,9,1@7", "w*;"},
        {"1,9,1@0w", "*;"},
        {"1,9,1@0*", "123456789"},
        {"1,9,1@0w*", "123456789"},
        {"1,9,1@0*1", "0123456789;"},
        {"1,9,1@0*2", "01234;"},
        {"1,9,1@0*3", ";"},
        {"1,9,1@0*12", ";"},
        {"1,9,1@0;", "123456789"},
        {"1,9,1@0*12;", "123456789"},
        {"1,9,1@0*12;1,9,1@0*1", "012;"},
        {"1,9,1@0*12;1,9,1@0*2", ";"},
        {"1,9,1@0*12;1,9,1@0*", "123456789"},
        {"1,9,1@0*22;1,9,1@0*", "12"},
        {"1,9,1@0*23;1,9,1@0*", "1"},
        {"1,9,1@0*24", ";"},
        {"1,9,1@0*24;", ""},
    };

    private static void stairsSigns() {
        Due.sentence(4, "-1 - p: the sign at p can't stand there");
        for (String[] one : STAIRS_GO_ON) {
            int calls = 0;
            StairsInSteps x = new StairsInSteps();
            for (int sign = 0; sign < 256; sign++, calls += 12) {
                x = calls % 480 == 0 ? new StairsInSteps() : x;
                boolean stands = one[1].indexOf(sign) >= 0;
                int answer = Tell.stairs(x, one[0] + (char) sign);
                boolean told = answer == -1 - one[0].length();
                boolean atEnd = answer == -2 - one[0].length() || answer == -100 || answer > 1;
                if (told == stands || stands && !atEnd) {
                    Due.fail("stairs() of " + one[0] + " and sign " + sign + " answered " + answer);
                }
            }
        }
        Twins.emptied("a wrong sign", -1 - 3, "5,9x", x -> x.stairs());
    }

    private static void stairsEndTooEarly() {
        Due.sentence(4, "its end, if it ends too early");
        String[] texts = {
            "5", "30", "5,", "5,9", "5,09", "5,9,", "5,9,3", "5,9,20", "5,9,3@", "5,9,3@0*", "5,9,3@0w*", "5,9,3@0;", "5,9,3@0*2;", "5,9,3@0;5",
            "5,9,3@0*24;",
        };
        for (String text : texts) {
            Twins.emptied("stairs() of " + text, -1 - text.length(), text, x -> x.stairs());
        }
        String full = Tell.times("1,9,1@0;", 9) + "1,9,";
        Due.is("76 signs", full.length(), 76);
        Twins.emptied("stairs() of " + full, -77, full, x -> x.stairs());
    }

    private static int stairsOf(String text) {
        return Tell.stairs(new StairsInSteps(), text);
    }

    private static int lawOf(String text) {
        return Tell.law(new StairsInSteps(), 0, text);
    }

    /** Right stairs of so many signs (7 or more). */
    private static String right(int signs) {
        String[] lines = {
            "1,9,1@0", "01,9,1@0", "01,09,1@0", "01,09,01@0", "01,09,01@0w", "01,09,1@0w*1", "01,09,01@0w*1", "01,09,01@0w*01",
        };
        int whole = (signs - 7) / 8;
        return Tell.times("1,9,1@0;", whole) + lines[signs - 7 - 8 * whole];
    }

    private static void stairsMoreThan76() {
        Due.sentence(4, "76, if it has more and the first 76 could go on or end");
        for (int signs = 15; signs <= 80; signs++) {
            String text = right(signs);
            Due.is("its length", text.length(), signs);
            Due.is(signs + " signs", stairsOf(text), signs > 76 ? -77 : (signs - 7) / 8 + 1);
        }
        String[] tails = {"x", ";", "xx", "xxxx", ",", "0", "9", "*", "\0"};
        for (String tail : tails) {
            Twins.emptied("76 right ones and " + tail, -77, right(76) + tail, y -> y.stairs());
        }
        for (String[] one : STAIRS_GO_ON) {
            int length = one[0].length();
            if (one[0].startsWith("1,9,1@0*1") || one[0].startsWith("1,9,1@0*2")) {
                continue;
            }
            String text = right(75 - length) + ";" + one[0];
            Due.is("its length", text.length(), 76);
            Due.is("76 that end with " + one[0] + " and xx", stairsOf(text + "xx"), -77);
            Due.is("76 that end with " + one[0] + " and 4", stairsOf(text + "4"), -77);
        }
        Due.is("a wrong sign at 75", stairsOf(right(75) + "x;1,9"), -1 - 75);
        Due.is("a wrong sign at 74", stairsOf(right(74) + "x;1,9"), -1 - 74);
        Due.is("a wrong sign at 0", stairsOf("x" + right(79)), -1);
        Due.is("a wrong sign at 75 that ends there", stairsOf(right(75) + "x"), -1 - 75);
    }

    private static void stairsNumbers() {
        Due.sentence(4, "a number too small or too great, TIMES, too, by which there are more than 24 STEPS, "
            + "as far as it stands in the first 76: at its last digit");
        String[] texts = {
            "0,9,1@0*2", "00,9,1@0*2", "31,9,1@0*2", "99,9,1@0*2", "1,10,1@0*2", "1,99,1@0*2", "1,9,21@0*2", "1,9,99@0*2", "1,9,1@0*0",
            "1,9,1@0*00", "1,9,1@0*25", "1,9,1@0*99", "1,9,1@0;1,9,1@0*24", "1,9,1@0*23;1,9,1@0*2", "1,9,1@0*23;1,9,1@0*02",
            "1,9,1@0*23;1,9,1@0*10", "1,9,1@0*2;1,9,1@0*23", "0", "00", "1,9,1@0*2;0", "1,9,1@0*2;31", "310,", "1,100", "0x",
            "1,9,1@0*0;1,9,1@0*2", "1,9,1@0*0w",
        };
        int[] last = {0, 1, 1, 1, 3, 3, 5, 5, 8, 9, 9, 9, 17, 19, 20, 20, 19, 0, 1, 10, 11, 1, 3, 0, 8, 8};
        for (int i = 0; i < texts.length; i++) {
            Twins.emptied("stairs() of " + texts[i], -1 - last[i], texts[i], x -> x.stairs());
        }
        Due.is("RISE 0 at 75, 05 in all", stairsOf(right(74) + ";05,9"), -1 - 75);
        Due.is("RISE 0 at 75, and no more", stairsOf(right(74) + ";0"), -1 - 75);
        Due.is("RISE 3 at 75, 35 in all", stairsOf(right(74) + ";35,9"), -77);
        Due.is("RISE 35 at 74 and 75", stairsOf(right(73) + ";35,9"), -1 - 75);
        Due.is("RISE 05 at 74 and 75", stairsOf(right(73) + ";05,9"), -77);
        Due.is("STATE 1 at 75, 10 in all", stairsOf(right(72) + ";1,10,"), -77);
        Due.is("ASKS 2 at 75, 21 in all", stairsOf(right(70) + ";1,9,21@"), -77);
        Due.is("TIMES 0 at 75, 02 in all", stairsOf(right(66) + ";1,9,1@0*02"), -1 - 75);
        Due.is("TIMES 2 at 75, 25 in all", stairsOf(right(66) + ";1,9,1@0*25"), -77);
        String of23 = "1,9,1@0*16;" + Tell.times("1,9,1@0;", 7) + "1,9,1@0*";
        Due.is("75 signs", of23.length(), 75);
        Due.is("TIMES 1 at 75", stairsOf(of23 + "1"), 24);
        Due.is("TIMES 2 at 75", stairsOf(of23 + "2"), -1 - 75);
        Due.is("TIMES 1 at 75, 15 in all", stairsOf(of23 + "15"), -77);
        Due.is("TIMES 2 at 75, 25 in all", stairsOf(of23 + "25"), -1 - 75);
    }

    private static void stairsBehind24() {
        Due.sentence(4, "the first sign of a LINE ahead of which there are 24");
        String[] lines = {"1,9,1@0", "x", ";", "0", "31,9,1@0*99"};
        for (String line : lines) {
            Twins.emptied("a LINE " + line + " behind 24", -1 - 11, "1,9,1@0*24;" + line, x -> x.stairs());
        }
        Twins.emptied("behind 12 and 12", -1 - 22, "1,9,1@0*12;1,9,1@0*12;1,9,1@0", x -> x.stairs());
        Due.is("behind 23", stairsOf("1,9,1@0*23;1,9,1@0"), 24);
        String of24 = Tell.times("1,9,1@0;", 8) + "1,9,1@0*16";
        Due.is("74 signs", of24.length(), 74);
        Due.is("24", stairsOf(of24), 24);
        Due.is("at 75", stairsOf(of24 + ";1,9,1"), -1 - 75);
        Due.is("at 76", stairsOf(Tell.times("1,9,1@0;", 8) + "1,9,1@0w*16;1,9"), -1 - 76);
    }

    private static void stairsFewerThan2() {
        Due.sentence(4, "-100: it tells fewer than 2 STEPS, but is right else (an empty one, too)");
        Twins.emptied("an empty one", -100, "", x -> x.stairs());
        Twins.emptied("one", -100, "5,9,3@0", x -> x.stairs());
        Twins.emptied("one, TIMES 1", -100, "5,9,3@0*1", x -> x.stairs());
        Twins.emptied("one, a WIDOW's, TIMES 01", -100, "30,09,20@7w*01", x -> x.stairs());
        Twins.emptied("one, and wrong else", -1 - 7, "5,9,3@0x", x -> x.stairs());
        Due.is("two", Tell.stairs(new StairsInSteps(), "5,9,3@0;5,9,3@0"), 2);
        Due.is("of a new one", new StairsInSteps().stairs(), -100);
    }

    private static void law() {
        Due.sentence(5, "THE TEXT is a LAW (an empty one: there is none): 0");
        StairsInSteps x = Tell.with("1,9,3@0w*3");
        x.pilgrim(60, 99, 2, 0);
        Due.is("LAW 0", Tell.law(x, 0, "7"), 0);
        Due.is("THE TEXT is gone", x.count(7), 0);
        Due.is("told", x.count(2), 1);
        Due.is("7", x.costs(0, 1), 7);
        Due.is("LAW 1", Tell.law(x, 1, "5"), 0);
        Due.is("told", x.count(2), 3);
        Due.is("7 and 5", x.costs(0, 1), 12);
        Due.is("another LAW 0", Tell.law(x, 0, "a"), 0);
        Due.is("3 and 5", x.costs(0, 1), 8);
        Due.is("an empty LAW 0", Tell.law(x, 0, ""), 0);
        Due.is("LAW 1 is left", x.count(2), 2);
        Due.is("0 and 5", x.costs(0, 1), 5);
        Due.is("an empty LAW 1", Tell.law(x, 1, ""), 0);
        Due.is("none", x.count(2), 0);
        Due.is("0", x.costs(0, 1), 0);
        Due.is("a LAW 0 that is 0 is a LAW", Tell.law(x, 0, "0"), 0);
        Due.is("told", x.count(2), 1);
    }

    private static final String THINGS = "0123456789arswxlj(-";
    private static final String ALL_SIGNS = "<>=+-*/";

    private static final String[][] LAWS_GO_ON = {
        {"", THINGS},
        {"-", THINGS},
        {"--", THINGS},
        {"(", THINGS},
        {"(((", THINGS},
        {"((((", "0123456789arswxlj-"},
        {"(a)+((((", "0123456789arswxlj-"},
        {"a", ALL_SIGNS},
        {"-a", ALL_SIGNS},
        {"a+", THINGS},
        {"a-", THINGS},
        {"a*", THINGS},
        {"a/", THINGS},
        {"a<", THINGS},
        {"a>", THINGS},
        {"a=", THINGS},
        {"a+a", ALL_SIGNS},
        {"a*a", ALL_SIGNS},
        {"a<a", "+-*/"},
        {"a+a>a*a", "+-*/"},
        {"a=(a)", "+-*/"},
        {"a=a+", THINGS},
        {"(a", ALL_SIGNS + ")"},
        {"(a<a", "+-*/)"},
        {"(a<a)", ALL_SIGNS},
        {"(a)", ALL_SIGNS},
        {"((a)", ALL_SIGNS + ")"},
        {"1", ALL_SIGNS + "0123456789"},
        {"12", ALL_SIGNS + "0123456789"},
        {"123", ALL_SIGNS},
        {"000", ALL_SIGNS},
        {"(12", ALL_SIGNS + "0123456789)"},
        {"(123", ALL_SIGNS + ")"},
        {"a<12", "+-*/0123456789"},
        {"a<123", "+-*/"},
    };

    private static void lawSigns() {
        Due.sentence(5, "-1 - p: the sign at p can't stand there, as stairs()");
        for (String[] one : LAWS_GO_ON) {
            int calls = 0;
            StairsInSteps x = new StairsInSteps();
            for (int sign = 0; sign < 256; sign++, calls += 12) {
                x = calls % 480 == 0 ? new StairsInSteps() : x;
                boolean stands = one[1].indexOf(sign) >= 0;
                int answer = Tell.law(x, sign % 2, one[0] + (char) sign);
                boolean told = answer == -1 - one[0].length();
                boolean atEnd = answer == -2 - one[0].length() || answer == 0;
                if (told == stands || stands && !atEnd) {
                    Due.fail("law of " + one[0] + " and sign " + sign + " answered " + answer);
                }
            }
        }
        String[] early = {"-", "(", "a+", "a*", "a<", "(a", "(a+", "((a)", "((((1", "a-(r<s"};
        for (String text : early) {
            Twins.emptied("law of " + text, -1 - text.length(), text, x -> x.law(0));
            Twins.emptied("law of " + text, -1 - text.length(), text, x -> x.law(1));
        }
        Twins.emptied("a wrong sign", -1 - 1, "a?", x -> x.law(0));
    }

    private static void lawMoreThan40() {
        Due.sentence(5, "(40 signs)");
        Due.is("39", lawOf(Tell.times("a+", 19) + "a"), 0);
        Due.is("40", lawOf(Tell.times("a+", 19) + "-a"), 0);
        Due.is("40 that end too early", lawOf(Tell.times("a+", 20)), -41);
        Due.is("40 could go on", lawOf(Tell.times("a+", 20) + "a"), -41);
        Due.is("40 could go on, whatever comes", lawOf(Tell.times("a+", 20) + "?"), -41);
        Due.is("40 could end", lawOf(Tell.times("a+", 19) + "-a+"), -41);
        Due.is("40 could end, whatever comes", lawOf(Tell.times("a+", 19) + "-a?"), -41);
        Due.is("40 and )", lawOf(Tell.times("a+", 19) + "(a)"), -41);
        Due.is("a number cut", lawOf(Tell.times("a+", 18) + "1+999"), -41);
        Due.is("three digits end at 39, a fourth", lawOf(Tell.times("a+", 18) + "-9999"), -41);
        Due.is("three digits end at 38, a fourth", lawOf(Tell.times("a+", 18) + "99999"), -1 - 39);
        Due.is("a wrong sign at 39", lawOf(Tell.times("a+", 19) + "a?aaa"), -1 - 39);
        Due.is("a wrong sign at 0", lawOf(Tell.times("?", 80)), -1);
        Due.is("80 signs", lawOf(Tell.times("-", 80)), -41);
        Twins.emptied("41", -41, Tell.times("-", 40) + "a", y -> y.law(0));
        Twins.emptied("41", -41, Tell.times("-", 40) + "a", y -> y.law(1));
    }

    private static void lawNoSuch() {
        Due.sentence(5, "-100: no such LAW (asked first)");
        Twins.emptied("law(2)", -100, "a", x -> x.law(2));
        Twins.emptied("law(-1)", -100, "a", x -> x.law(-1));
        Twins.emptied("law(2) of a wrong one", -100, "a+", x -> x.law(2));
        Twins.emptied("law(2) of an empty one", -100, "", x -> x.law(2));
        Twins.emptied("law(2) of a long one", -100, Tell.times("a", 80), x -> x.law(2));
        for (int i : FAR_OFF) {
            Twins.emptied("law(" + i + ")", -100, "?", x -> x.law(i));
        }
    }

    private static void step() {
        Due.sentence(6, "Of a STEP, what 0: RISE, 1: STATE, 2: ASKS, 3: 1 for a WIDOW's, 4: MAIN");
        StairsInSteps x = Tell.with("5,7,3@2w;6,8,4@3");
        int[][] due = {{5, 7, 3, 1, 2}, {6, 8, 4, 0, 3}};
        for (int what = 0; what < 5; what++) {
            Due.is("step(0, " + what + ")", x.step(0, what), due[0][what]);
            Due.is("step(1, " + what + ")", x.step(1, what), due[1][what]);
        }
        Due.sentence(6, "NoSuchElementException: none such, another what");
        Due.noSuch("step(2, 0)", () -> x.step(2, 0));
        Due.noSuch("step(-1, 0)", () -> x.step(-1, 0));
        Due.noSuch("step(0, 5)", () -> x.step(0, 5));
        Due.noSuch("step(0, -1)", () -> x.step(0, -1));
        Due.noSuch("step(2, 5)", () -> x.step(2, 5));
        for (int v : FAR_OFF) {
            Due.noSuch("step(" + v + ", 0)", () -> x.step(v, 0));
            Due.noSuch("step(0, " + v + ")", () -> x.step(0, v));
        }
        Twins.refused("step(4, 0)", 1, y -> Due.throwsNoSuch(() -> y.step(4, 0)) ? 1 : 0);
        Twins.refused("step(0, 5)", 1, y -> Due.throwsNoSuch(() -> y.step(0, 5)) ? 1 : 0);
    }

    private static void set() {
        Due.sentence(7, "ASKS (what 0), STATE (1) of a STEP becomes v: what it was");
        StairsInSteps x = Tell.with("5,7,3@2;6,8,4@3");
        Due.is("ASKS 20", x.set(0, 0, 20), 3);
        Due.is("so it is", x.step(0, 2), 20);
        Due.is("ASKS 0", x.set(0, 0, 0), 20);
        Due.is("so it is", x.step(0, 2), 0);
        Due.is("STATE 9", x.set(1, 1, 9), 8);
        Due.is("so it is", x.step(1, 1), 9);
        Due.is("STATE 0", x.set(1, 1, 0), 9);
        Due.is("so it is", x.step(1, 1), 0);
        Due.is("the others stay", x.step(0, 1) * 10 + x.step(1, 2), 74);
        Due.sentence(7, "Refused: others");
        int[][] others = {{0, 0, 21}, {0, 0, -1}, {0, 1, 10}, {0, 1, -1}, {4, 0, 1}, {-1, 0, 1}, {4, 1, 1}, {0, 2, 1}, {0, -1, 1}};
        for (int[] one : others) {
            Twins.refused("set(" + one[0] + ", " + one[1] + ", " + one[2] + ")", -1, y -> y.set(one[0], one[1], one[2]));
        }
        for (int v : FAR_OFF) {
            Twins.refused("set(" + v + ", 0, 1)", -1, y -> y.set(v, 0, 1));
            Twins.refused("set(0, " + v + ", 1)", -1, y -> y.set(0, v, 1));
            Twins.refused("set(0, 0, " + v + ")", -1, y -> y.set(0, 0, v));
            Twins.refused("set(0, 1, " + v + ")", -1, y -> y.set(0, 1, v));
        }
        Due.is("no STEPS", new StairsInSteps().set(0, 0, 1), -1);
    }

    private static void dueAsks(StairsInSteps x, int... due) {
        for (int i = 0; i < due.length; i++) {
            Due.is("ASKS of STEP " + i, x.step(i, 2), due[i]);
        }
    }

    private static void sheet() {
        Due.sentence(8, "ASKS of STEPS 0, 1, .., as a sheet tells it: bytes (kind 0), shorts (1), ints (2) of n entries f, f + step, ..");
        StairsInSteps x = Tell.with("5,7,3@0*5");
        for (int kind = 0; kind < 3; kind++) {
            Due.is("5 entries", x.sheet(kind, 5, 2, 3), 2 + 5 + 8 + 11 + 14);
            dueAsks(x, 2, 5, 8, 11, 14);
            Due.is("going down", x.sheet(kind, 5, 14, -3), 2 + 5 + 8 + 11 + 14);
            dueAsks(x, 14, 11, 8, 5, 2);
            Due.is("all alike", x.sheet(kind, 5, 7, 0), 35);
            Due.is("one", x.sheet(kind, 1, 7, 0), 7);
            Due.is("more than there are STEPS", x.sheet(kind, 24, 1, 1), 1 + 2 + 3 + 4 + 5);
        }
        Due.sentence(8, "(of bytes, shorts the lowest bits, with their sign; put to 0 .. 20)");
        Due.is("20, 21", x.sheet(2, 2, 20, 1), 40);
        dueAsks(x, 20, 20, 0, 0, 0);
        Due.is("0, -1", x.sheet(2, 2, 0, -1), 0);
        Due.is("1, 0, -1", x.sheet(2, 3, 1, -1), 1);
        Due.is("bytes 127, 128", x.sheet(0, 2, 127, 1), 20);
        dueAsks(x, 20, 0, 0, 0, 0);
        Due.is("bytes 255, 256, 257", x.sheet(0, 3, 255, 1), 1);
        dueAsks(x, 0, 0, 1, 0, 0);
        Due.is("bytes -256 + 9, -512 + 9", x.sheet(0, 2, -247, -256), 18);
        Due.is("shorts 127, 128", x.sheet(1, 2, 127, 1), 40);
        Due.is("shorts 32767, 32768", x.sheet(1, 2, 32767, 1), 20);
        dueAsks(x, 20, 0, 0, 0, 0);
        Due.is("shorts 65535, 65536, 65537", x.sheet(1, 3, 65535, 1), 1);
        Due.is("shorts -65536 + 9, twice", x.sheet(1, 2, -65527, -65536), 18);
        Due.is("ints 65536, 65537", x.sheet(2, 2, 65536, 1), 40);
        Due.is("ints go round", x.sheet(2, 2, Integer.MAX_VALUE, 1), 20);
        dueAsks(x, 20, 0, 0, 0, 0);
        Due.is("ints go round", x.sheet(2, 3, Integer.MIN_VALUE, Integer.MIN_VALUE), 0);
        // 3, then 3 more than the least, then 3 again
        Due.is("ints go round", x.sheet(2, 3, 3, Integer.MIN_VALUE), 6);
        dueAsks(x, 3, 0, 3, 0, 0);
        Due.sentence(8, "or a missing one (3): those behind it ask 0: the sum of all");
        x.sheet(2, 5, 9, 0);
        Due.is("two entries", x.sheet(2, 2, 5, 1), 11);
        dueAsks(x, 5, 6, 0, 0, 0);
        Due.is("no entries", x.sheet(2, 0, 5, 1), 0);
        dueAsks(x, 0, 0, 0, 0, 0);
        Due.is("no STEPS", new StairsInSteps().sheet(2, 3, 5, 1), 0);
        StairsInSteps most = Tell.with("5,7,3@0*24");
        Due.is("24 entries", most.sheet(2, 24, 99, 0), 480);
        Due.is("23 entries", most.sheet(2, 23, 1, 0), 23);
    }

    private static void sheetRefused() {
        Due.sentence(8, "-2: n below 0 (of kinds 0 .. 2; nothing changes)");
        for (int kind = 0; kind < 3; kind++) {
            int k = kind;
            Twins.refused("sheet(" + k + ", -1, 1, 1)", -2, x -> x.sheet(k, -1, 1, 1));
            Twins.refused("sheet(" + k + ", least, 1, 1)", -2, x -> x.sheet(k, Integer.MIN_VALUE, 1, 1));
        }
        Due.sentence(8, "-3: missing (all 0)");
        int[] many = {0, 1, 24, -1, Integer.MIN_VALUE};
        for (int n : many) {
            StairsInSteps x = Tell.with("5,7,3@0*3");
            Due.is("sheet(3, " + n + ", 1, 1)", x.sheet(3, n, 1, 1), -3);
            dueAsks(x, 0, 0, 0);
        }
        Due.is("no STEPS", new StairsInSteps().sheet(3, 3, 5, 1), -3);
        Due.sentence(8, "NONE: another kind, n above 24 (these first)");
        int[][] others = {{4, 0}, {-1, 0}, {4, -1}, {-1, -1}, {0, 25}, {1, 25}, {2, 25}, {3, 25}, {4, 25}};
        for (int[] one : others) {
            Twins.refused("sheet(" + one[0] + ", " + one[1] + ", 1, 1)", -1, x -> x.sheet(one[0], one[1], 1, 1));
        }
        for (int v : FAR_OFF) {
            Twins.refused("sheet(" + v + ", 1, 1, 1)", -1, x -> x.sheet(v, 1, 1, 1));
        }
        Twins.refused("sheet(2, greatest, 1, 1)", -1, x -> x.sheet(2, Integer.MAX_VALUE, 1, 1));
        Twins.refused("sheet(3, greatest, 1, 1)", -1, x -> x.sheet(3, Integer.MAX_VALUE, 1, 1));
    }

    private static void feud() {
        Due.sentence(9, "Two unlike FAMILIES are in FEUD, or not: true");
        StairsInSteps x = new StairsInSteps();
        int feuds = 0;
        for (int a = 0; a < 8; a++) {
            for (int b = 0; b < a; b++) {
                Due.is("feud", x.feud(a, b, true), true);
                feuds++;
                Due.is("FEUDS", x.count(5), feuds);
            }
        }
        Due.is("all", feuds, 28);
        Due.is("once more", x.feud(0, 7, true), true);
        Due.is("as many", x.count(5), 28);
        Due.is("not", x.feud(0, 7, false), true);
        Due.is("one less", x.count(5), 27);
        Due.is("not, once more", x.feud(7, 0, false), true);
        Due.is("as many", x.count(5), 27);
        Due.sentence(9, "Refused: others");
        int[][] others = {{0, 0}, {7, 7}, {8, 0}, {0, 8}, {-1, 0}, {0, -1}, {8, 8}, {-1, -1}};
        for (int[] one : others) {
            for (int is = 0; is < 2; is++) {
                boolean so = is == 1;
                Twins.refused("feud(" + one[0] + ", " + one[1] + ")", 0, y -> y.feud(one[0], one[1], so) ? 1 : 0);
            }
        }
        int[] far = {32, 33, -32, -31, 1000, Integer.MIN_VALUE, Integer.MAX_VALUE};
        for (int v : far) {
            Twins.refused("feud(" + v + ", 0)", 0, y -> y.feud(v, 0, true) ? 1 : 0);
            Twins.refused("feud(0, " + v + ")", 0, y -> y.feud(0, v, true) ? 1 : 0);
            Twins.refused("feud(1, " + v + ") not", 0, y -> y.feud(1, v, false) ? 1 : 0);
        }
    }

    private static void wears() {
        Due.sentence(10, "STATE of each STEP is less by n (0 .. 9; 0 at least): the sum of STATES then");
        StairsInSteps x = Tell.with("5,9,3@0;5,4,3@0;5,0,3@0;5,5,3@0");
        Due.is("by 0", x.wears(0), 18);
        Due.is("by 4", x.wears(4), 5 + 0 + 0 + 1);
        int[] due = {5, 0, 0, 1};
        for (int i = 0; i < 4; i++) {
            Due.is("STATE of STEP " + i, x.step(i, 1), due[i]);
        }
        Due.is("by 1", x.wears(1), 4);
        x.set(1, 1, 9);
        Due.is("by 9", x.wears(9), 0);
        Due.is("no STEPS", new StairsInSteps().wears(3), 0);
        StairsInSteps y = Tell.with("5,9,3@0*24");
        Due.is("24 whole ones", y.wears(0), 216);
        Due.is("by 8", y.wears(8), 24);
        Due.sentence(10, "Refused: others");
        int[] others = {-1, 10, Integer.MIN_VALUE, Integer.MAX_VALUE};
        for (int v : others) {
            Twins.refused("wears(" + v + ")", -1, z -> z.wears(v));
        }
    }
}
