import java.util.ArrayList;
import java.util.Arrays;
import java.util.List;
import java.util.NoSuchElementException;
import java.util.Random;

/** Random runs of calls, each answered by the class and by a slow model that goes through all climbs one by one. */
public final class OracleTest {
    private static final int RUNS = 1000;
    private static final int CALLS = 150;
    private static int wrong = 0;

    public static void main(String[] args) {
        int runs = args.length > 0 ? Integer.parseInt(args[0]) : RUNS;
        int first = args.length > 1 ? Integer.parseInt(args[1]) : 1;
        for (int seed = first; seed < first + runs && wrong < 5; seed++) {
            new Run(seed).go();
        }
        System.out.println(wrong == 0 ? "the class and the model agree in " + runs + " runs" : wrong + " runs differ");
        if (wrong != 0) {
            System.exit(1);
        }
    }

    private static final class Run {
        private final Random random;
        private final int seed;
        private final int mostSteps;
        private final StairsInSteps real = new StairsInSteps();
        private final Model model = new Model();
        private final List<String> log = new ArrayList<>();
        private boolean same = true;

        Run(int seed) {
            this.seed = seed;
            this.random = new Random(seed);
            this.mostSteps = seed % 20 == 0 ? 11 : 8;
        }

        void go() {
            if (random.nextInt(10) > 0) {
                tellStairs(false);
            }
            int pilgrims = random.nextInt(5);
            for (int i = 0; i < pilgrims; i++) {
                callPilgrim();
            }
            for (int i = 0; i < CALLS && same; i++) {
                callSomething();
            }
        }

        private void check(String call, long got, long due) {
            log.add(call + " = " + got);
            boolean alike = got == due;
            if (alike) {
                alike = real.count(6) == model.row.length && real.count(7) == model.text.length();
                for (int i = 0; alike && i < model.row.length; i++) {
                    alike = real.row(i) == model.row[i];
                }
            }
            if (!alike && same) {
                same = false;
                wrong++;
                StringBuilder row = new StringBuilder();
                for (int i = 0; i < real.count(6); i++) {
                    row.append(' ').append(real.row(i));
                }
                System.out.println("seed " + seed + ": " + call + " answered " + got + " row" + row + ", due is " + due
                    + " row " + Arrays.toString(model.row) + " texts " + real.count(7) + " " + model.text.length());
                for (String line : log) {
                    System.out.println("    " + line);
                }
            }
        }

        private void check(String call, boolean got, boolean due) {
            check(call, got ? 1 : 0, due ? 1 : 0);
        }

        private int in(int least, int most) {
            return least + random.nextInt(most - least + 1);
        }

        /** Mostly within the bounds, sometimes just outside. */
        private int near(int least, int most) {
            int dice = random.nextInt(40);
            return dice == 0 ? least - 1 : dice == 1 ? most + 1 : dice == 2 ? least - 5 : in(least, most);
        }

        private int anyStep() {
            return model.n == 0 ? near(0, 2) : near(0, model.n - 1);
        }

        private int anyPilgrim() {
            return model.pilgrims.size() == 0 ? near(0, 1) : near(0, model.pilgrims.size() - 1);
        }

        private void tell(String text) {
            for (int i = 0; i < text.length(); i += 4) {
                int v = 0;
                for (int k = 0; k < 4; k++) {
                    v = v << 8 | (i + k < text.length() ? text.charAt(i + k) : 0);
                }
                check("sign(" + v + ")", real.sign(v), model.sign(v));
            }
            int rest = Math.min(text.length(), 80);
            check("end(" + rest + ") of " + text, real.end(rest), model.end(rest));
        }

        private String stairsText() {
            StringBuilder sb = new StringBuilder();
            int steps = 0;
            int want = in(2, mostSteps);
            while (steps < want) {
                if (sb.length() > 0) {
                    sb.append(';');
                }
                sb.append(in(1, random.nextInt(12) == 0 ? 30 : 5)).append(',');
                sb.append(in(random.nextInt(3) == 0 ? 0 : 6, 9)).append(',');
                sb.append(in(0, random.nextInt(3) == 0 ? 20 : 4)).append('@').append(in(0, random.nextBoolean() ? 2 : 7));
                if (random.nextInt(4) == 0) {
                    sb.append('w');
                }
                int times = random.nextInt(4) == 0 ? in(1, want - steps) : 1;
                if (times > 1 || random.nextInt(8) == 0) {
                    sb.append('*').append(random.nextInt(4) == 0 && times < 10 ? "0" : "").append(times);
                }
                steps += times;
                if (sb.length() > 66) {
                    break;
                }
            }
            return sb.toString();
        }

        private String mutated(String text, String signs) {
            StringBuilder sb = new StringBuilder(text);
            int changes = in(1, 2);
            for (int i = 0; i < changes; i++) {
                int at = random.nextInt(sb.length() + 1);
                char sign = random.nextInt(12) == 0 ? (char) random.nextInt(256) : signs.charAt(random.nextInt(signs.length()));
                int how = random.nextInt(4);
                if (how == 0 || at == sb.length()) {
                    sb.insert(at, sign);
                } else if (how == 1) {
                    sb.setCharAt(at, sign);
                } else if (how == 2) {
                    sb.deleteCharAt(at);
                } else {
                    sb.setLength(at);
                }
            }
            return sb.toString();
        }

        private void tellStairs(boolean spoilt) {
            String text = stairsText();
            if (random.nextInt(6) == 0) {
                while (text.length() < 72) {
                    text = text + ";" + stairsText();
                }
                text = text.length() > 80 ? text.substring(0, in(74, 80)) : text;
            }
            if (spoilt) {
                text = mutated(text, "0123456789,,@w*;;");
            }
            tell(text.length() > 80 ? text.substring(0, 80) : text);
            int due = model.stairs();
            check("stairs() of " + text, real.stairs(), due);
        }

        private String expression(int depth) {
            StringBuilder sb = new StringBuilder();
            int things = in(1, 3);
            for (int i = 0; i < things; i++) {
                if (i > 0) {
                    sb.append("+-*/+*".charAt(random.nextInt(6)));
                }
                while (random.nextInt(6) == 0) {
                    sb.append('-');
                }
                int kind = random.nextInt(10);
                if (kind < 6) {
                    sb.append("arswxlj".charAt(random.nextInt(7)));
                } else if (kind < 8 || depth >= 4) {
                    sb.append(in(0, random.nextInt(4) == 0 ? 999 : 12));
                } else {
                    sb.append('(').append(expression(depth + 1)).append(')');
                }
            }
            if (random.nextInt(5) == 0) {
                sb.append("<>=".charAt(random.nextInt(3))).append("arswxlj5".charAt(random.nextInt(8)));
            }
            return sb.toString();
        }

        private void tellLaw() {
            String text = random.nextInt(6) == 0 ? "" : expression(0);
            int kind = random.nextInt(8);
            if (kind == 0 && text.length() > 0) {
                text = mutated(text, "0123456789arswxlj+-*/<>=()()");
            } else if (kind == 1) {
                while (text.length() < 38) {
                    text = text + "+" + expression(0);
                }
                text = text.substring(0, Math.min(text.length(), in(38, 44)));
            }
            tell(text.length() > 80 ? text.substring(0, 80) : text);
            int i = near(0, 1);
            int due = model.law(i);
            check("law(" + i + ") of " + text, real.law(i), due);
        }

        private void callPilgrim() {
            int knees = near(random.nextInt(3) == 0 ? 1 : 30, random.nextInt(3) == 0 ? 60 : 120);
            int purse = near(0, random.nextInt(3) == 0 ? 999 : 40);
            int leap = near(1, 3);
            int load = near(0, random.nextBoolean() ? 5 : 50);
            check("pilgrim(" + knees + "," + purse + "," + leap + "," + load + ")", real.pilgrim(knees, purse, leap, load),
                model.pilgrim(knees, purse, leap, load));
        }

        private void callSomething() {
            int kind = random.nextInt(60);
            if (kind < 10) {
                callStairs(kind);
            } else if (kind < 24) {
                callPilgrims(kind);
            } else if (kind < 34) {
                callClimbs(kind);
            } else if (kind < 45) {
                callPrices(kind);
            } else {
                callRest(kind);
            }
        }

        private void callStairs(int kind) {
            switch (kind) {
                case 0: {
                    if (random.nextInt(4) == 0) {
                        tellStairs(random.nextInt(3) > 0);
                    }
                    break;
                }
                case 1:
                case 2:
                    if (random.nextInt(2) == 0) {
                        tellLaw();
                    }
                    break;
                case 3: {
                    int step = anyStep();
                    int what = near(0, 4);
                    long got = -999;
                    try {
                        got = real.step(step, what);
                    } catch (NoSuchElementException e) {
                        got = -777;
                    }
                    check("step(" + step + "," + what + ")", got, model.step(step, what));
                    break;
                }
                case 4:
                case 5: {
                    int step = anyStep();
                    int what = near(0, 1);
                    int v = near(what == 0 ? 0 : 5, what == 0 ? 20 : 9);
                    check("set(" + step + "," + what + "," + v + ")", real.set(step, what, v), model.set(step, what, v));
                    break;
                }
                case 6: {
                    int k = near(0, 3);
                    int n = near(0, 24);
                    int f = random.nextInt(3) == 0 ? random.nextInt() : in(-5, 30);
                    int by = random.nextInt(3) == 0 ? random.nextInt() : in(-5, 5);
                    check("sheet(" + k + "," + n + "," + f + "," + by + ")", real.sheet(k, n, f, by), model.sheet(k, n, f, by));
                    break;
                }
                case 7:
                case 8: {
                    int a = near(0, 4);
                    int b = near(0, 4);
                    boolean is = random.nextInt(3) > 0;
                    check("feud(" + a + "," + b + "," + is + ")", real.feud(a, b, is), model.feud(a, b, is));
                    break;
                }
                default: {
                    int n = random.nextInt(4) > 0 ? 0 : random.nextInt(4) == 0 ? near(0, 9) : 1;
                    check("wears(" + n + ")", real.wears(n), model.wears(n));
                    break;
                }
            }
        }

        private void callPilgrims(int kind) {
            int p = anyPilgrim();
            int step = anyStep();
            switch (kind) {
                case 10:
                    callPilgrim();
                    break;
                case 11: {
                    int f = random.nextInt(3) == 0 ? 0 : random.nextBoolean() ? 1 << in(0, 7) : near(0, 255);
                    check("vow(" + p + "," + f + ")", real.vow(p, f), model.vow(p, f));
                    break;
                }
                case 12: {
                    int what = near(0, 7);
                    long got = -999;
                    try {
                        got = real.of(p, what);
                    } catch (NoSuchElementException e) {
                        got = -777;
                    }
                    check("of(" + p + "," + what + ")", got, model.of(p, what));
                    break;
                }
                case 13:
                    check("costs(" + p + "," + step + ")", real.costs(p, step), model.costs(p, step));
                    break;
                case 14:
                case 15:
                case 16:
                case 17: {
                    int to = model.has(p) && random.nextInt(5) > 0 ? model.pilgrims.get(p).at + in(1, 2) : step;
                    check("tread(" + p + "," + to + ")", real.tread(p, to), model.tread(p, to));
                    break;
                }
                case 18:
                case 19: {
                    int n = near(1, 30);
                    check("rests(" + p + "," + n + ")", real.rests(p, n), model.rests(p, n));
                    break;
                }
                case 20:
                    check("returns(" + p + ")", real.returns(p), model.returns(p));
                    break;
                default: {
                    int f = near(0, 7);
                    check("earned(" + f + ")", real.earned(f), model.earned(f));
                    break;
                }
            }
        }

        private void callClimbs(int kind) {
            int p = anyPilgrim();
            int step = anyStep();
            int cost = random.nextInt(4) == 0 ? near(0, 999) : model.someCost(p, random);
            switch (kind) {
                case 24:
                case 25:
                    check("climb(" + p + ")", real.climb(p), model.climb(p));
                    break;
                case 26:
                    check("knees(" + p + ")", real.knees(p), model.knees(p));
                    break;
                case 27:
                    check("ways(" + p + "," + cost + ")", real.ways(p, cost), model.ways(p, cost));
                    break;
                case 28:
                    check("trod(" + p + "," + cost + "," + step + ")", real.trod(p, cost, step), model.trod(p, cost, step));
                    break;
                case 29:
                    check("who(" + cost + "," + step + ")", real.who(cost, step), model.who(cost, step));
                    break;
                case 30: {
                    int c = random.nextBoolean() ? cost - 1 : near(-1, 998);
                    check("next(" + p + "," + c + ")", real.next(p, c), model.next(p, c));
                    break;
                }
                case 31:
                    check("bears(" + p + ")", real.bears(p), model.bears(p));
                    break;
                case 32:
                    check("breaks(" + p + ")", real.breaks(p), model.breaks(p));
                    break;
                default:
                    check("all()", real.all(), model.all());
                    break;
            }
        }

        private void callPrices(int kind) {
            int step = anyStep();
            switch (kind) {
                case 34:
                    check("whole(" + step + ")", real.whole(step), model.whole(step));
                    break;
                case 35:
                    check("mends(" + step + ")", real.mends(step), model.mends(step));
                    break;
                case 36:
                    check("shut(" + step + ")", real.shut(step), model.shut(step));
                    break;
                case 37:
                    check("toll(" + step + ")", real.toll(step), model.toll(step));
                    break;
                case 38:
                    check("peace()", real.peace(), model.peace());
                    break;
                case 39: {
                    int d = random.nextBoolean() ? near(0, 23) : near(0, 3);
                    check("lamps(" + d + ")", real.lamps(d), model.lamps(d));
                    break;
                }
                case 40:
                case 41: {
                    int v = near(0, 20);
                    check("would(" + step + "," + v + ")", real.would(step, v), model.would(step, v));
                    break;
                }
                case 42:
                case 43:
                    check("best(" + step + ")", real.best(step), model.best(step));
                    break;
                default:
                    if (random.nextInt(3) == 0) {
                        int n = near(1, 3);
                        check("market(" + n + ")", real.market(n), model.market(n));
                    }
                    break;
            }
        }

        private void callRest(int kind) {
            int step = anyStep();
            switch (kind) {
                case 45: {
                    int f = near(0, 7);
                    check("parts(" + step + "," + f + ")", real.parts(step, f), model.parts(step, f));
                    break;
                }
                case 46:
                case 47:
                case 48: {
                    int from = model.n > 0 && random.nextInt(4) > 0 ? model.main(in(0, model.n - 1)) : near(0, 7);
                    int to = near(0, 7);
                    int low = near(1, 9);
                    int up = random.nextInt(5) == 0 ? near(1, 9) : in(1, Math.max(1, low));
                    check("sells(" + step + "," + from + "," + to + "," + up + "," + low + ")",
                        real.sells(step, from, to, up, low), model.sells(step, from, to, up, low));
                    break;
                }
                case 49: {
                    int f = near(0, 7);
                    int heirs = near(1, 255);
                    heirs = f >= 0 && f < 8 && random.nextInt(4) > 0 ? heirs & ~(1 << f) : heirs;
                    check("dies(" + f + "," + heirs + ")", real.dies(f, heirs), model.dies(f, heirs));
                    break;
                }
                case 50:
                case 51:
                    check("undo()", real.undo(), model.undo());
                    break;
                case 52: {
                    int n = random.nextBoolean() ? near(0, 9999) : near(0, 20);
                    check("rail(" + n + ")", real.rail(n), model.rail(n));
                    break;
                }
                case 53: {
                    int what = near(0, 1);
                    check("rules(" + what + "," + step + ")", real.rules(what, step), model.rules(what, step));
                    break;
                }
                case 54: {
                    int room = random.nextBoolean() ? 1 : near(1, 6);
                    check("feast(" + room + ")", real.feast(room), model.feast(room));
                    break;
                }
                case 55:
                    check("jam()", real.jam(), model.jam());
                    break;
                case 56: {
                    int i = near(0, 1);
                    check("keep(" + i + ")", real.keep(i), model.keep(i));
                    break;
                }
                case 57: {
                    int i = near(0, 1);
                    check("again(" + i + ")", real.again(i), model.again(i));
                    break;
                }
                case 58: {
                    int what = near(0, 7);
                    check("count(" + what + ")", real.count(what), model.count(what));
                    break;
                }
                default: {
                    int i = near(0, 5);
                    long got = -999;
                    try {
                        got = real.row(i);
                    } catch (NoSuchElementException e) {
                        got = -777;
                    }
                    check("row(" + i + ")", got, i >= 0 && i < model.row.length ? model.row[i] : -777);
                    break;
                }
            }
        }
    }

    private static final class Walker {
        int knees, purse, leap, load, vow, at = -1, kneesLeft, purseLeft;
    }

    private static final class Way {
        final List<Integer> steps = new ArrayList<>();
        int cost, effort;
    }

    private static final class Step implements Cloneable {
        int rise, state, asks, widow;
        int[] parts = new int[8];

        Step copy() {
            Step s = new Step();
            s.rise = rise;
            s.state = state;
            s.asks = asks;
            s.widow = widow;
            s.parts = parts.clone();
            return s;
        }
    }

    private static final class Box {
        List<Step> steps = new ArrayList<>();
        List<int[]> walkers = new ArrayList<>();
        int[] earned;
    }

    /** The document, in the slowest and plainest way. */
    private static final class Model {
        String text = "";
        int n = 0;
        List<Step> steps = new ArrayList<>();
        List<Walker> pilgrims = new ArrayList<>();
        String[] laws = {"", ""};
        boolean[][] feuds = new boolean[8][8];
        int[] earned = new int[8];
        long[] row = {};
        List<List<int[]>> sales = new ArrayList<>();
        Box[] boxes = new Box[2];
        int closed = -1;
        int[][] cost;
        int[][] effort;

        boolean has(int p) {
            return p >= 0 && p < pilgrims.size();
        }

        boolean isStep(int s) {
            return s >= 0 && s < n;
        }

        int sign(int v) {
            if (text.length() + 4 > 80) {
                return -1;
            }
            text = text + (char) (v >>> 24) + (char) (v >>> 16 & 255) + (char) (v >>> 8 & 255) + (char) (v & 255);
            return text.length();
        }

        boolean end(int k) {
            if (k < 0 || k > text.length()) {
                return false;
            }
            text = text.substring(0, k);
            return true;
        }

        /** Where the first sign is that can't stand there; -1 if there is none. It goes sign by sign through kinds of places. */
        int faultOfStairs(String t, List<Step> into) {
            int limit = Math.min(76, t.length());
            int at = 0;
            if (t.length() == 0) {
                return -1;
            }
            int[] least = {1, 0, 0};
            int[] most = {30, 9, 20};
            char[] behind = {',', ',', '@'};
            int[] values = new int[3];
            while (true) {
                if (into.size() == 24) {
                    return at;
                }
                for (int k = 0; k < 3; k++) {
                    int from = at;
                    while (at < limit && at < from + 2 && "0123456789".indexOf(t.charAt(at)) >= 0) {
                        at++;
                    }
                    if (at == from) {
                        return at;
                    }
                    values[k] = Integer.parseInt(t.substring(from, at));
                    if (values[k] < least[k] || values[k] > most[k]) {
                        return at - 1;
                    }
                    if (at == limit || t.charAt(at) != behind[k]) {
                        return at;
                    }
                    at++;
                }
                if (at == limit || "01234567".indexOf(t.charAt(at)) < 0) {
                    return at;
                }
                Step s = new Step();
                s.rise = values[0];
                s.state = values[1];
                s.asks = values[2];
                s.parts[t.charAt(at) - '0'] = 720;
                at++;
                if (at < limit && t.charAt(at) == 'w') {
                    s.widow = 1;
                    at++;
                }
                int times = 1;
                if (at < limit && t.charAt(at) == '*') {
                    int from = ++at;
                    while (at < limit && at < from + 2 && "0123456789".indexOf(t.charAt(at)) >= 0) {
                        at++;
                    }
                    if (at == from) {
                        return at;
                    }
                    times = Integer.parseInt(t.substring(from, at));
                    if (times < 1 || times > 24 || into.size() + times > 24) {
                        return at - 1;
                    }
                }
                for (int k = 0; k < times; k++) {
                    into.add(s.copy());
                }
                if (at == limit) {
                    return t.length() > 76 ? 76 : -1;
                }
                if (t.charAt(at) != ';') {
                    return at;
                }
                at++;
            }
        }

        int stairs() {
            String t = text;
            text = "";
            List<Step> into = new ArrayList<>();
            int fault = faultOfStairs(t, into);
            if (fault >= 0) {
                return -1 - fault;
            }
            if (into.size() < 2) {
                return -100;
            }
            steps = into;
            n = into.size();
            for (Walker w : pilgrims) {
                w.at = -1;
                w.kneesLeft = w.knees;
                w.purseLeft = w.purse;
            }
            earned = new int[8];
            sales.clear();
            boxes = new Box[2];
            return n;
        }

        /** Sign by sign: is a thing awaited, how many brackets are open, has each a comparison already. */
        int faultOfLaw(String t) {
            int limit = Math.min(40, t.length());
            boolean[] compared = new boolean[6];
            int depth = 0;
            boolean awaited = true;
            int digits = 0;
            for (int at = 0; at < limit; at++) {
                char c = t.charAt(at);
                boolean digit = "0123456789".indexOf(c) >= 0;
                if (awaited) {
                    digits = 0;
                    if (c == '-') {
                        continue;
                    }
                    if (c == '(') {
                        depth++;
                        if (depth > 4) {
                            return at;
                        }
                        compared[depth] = false;
                        continue;
                    }
                    if (digit) {
                        digits = 1;
                    } else if ("arswxlj".indexOf(c) < 0) {
                        return at;
                    }
                    awaited = false;
                } else if (digit) {
                    if (digits < 1 || digits > 2) {
                        return at;
                    }
                    digits++;
                } else if (c == ')') {
                    if (depth == 0) {
                        return at;
                    }
                    depth--;
                    digits = 0;
                } else if ("+-*/".indexOf(c) >= 0) {
                    awaited = true;
                } else if ("<>=".indexOf(c) >= 0) {
                    if (compared[depth]) {
                        return at;
                    }
                    compared[depth] = true;
                    awaited = true;
                } else {
                    return at;
                }
            }
            return awaited || depth > 0 || t.length() > 40 ? limit : -1;
        }

        int law(int i) {
            String t = text;
            text = "";
            if (i < 0 || i > 1) {
                return -100;
            }
            int fault = t.isEmpty() ? -1 : faultOfLaw(t);
            if (fault >= 0) {
                return -1 - fault;
            }
            laws[i] = t;
            return 0;
        }

        /** The last of some signs that stands between two things outside brackets; -1 if there is none. */
        int lastBetween(String t, String signs) {
            int depth = 0;
            int found = -1;
            for (int i = 0; i < t.length(); i++) {
                char c = t.charAt(i);
                depth += c == '(' ? 1 : c == ')' ? -1 : 0;
                boolean behindThing = i > 0 && "+-*/<>=(".indexOf(t.charAt(i - 1)) < 0;
                if (depth == 0 && behindThing && signs.indexOf(c) >= 0) {
                    found = i;
                }
            }
            return found;
        }

        int value(String t, int[] letters) {
            for (String signs : new String[] {"<>=", "+-", "*/"}) {
                int at = lastBetween(t, signs);
                if (at >= 0) {
                    int a = value(t.substring(0, at), letters);
                    int b = value(t.substring(at + 1), letters);
                    switch (t.charAt(at)) {
                        case '<': return a < b ? 1 : 0;
                        case '>': return a > b ? 1 : 0;
                        case '=': return a == b ? 1 : 0;
                        case '+': return a + b;
                        case '-': return a - b;
                        case '*': return a * b;
                        default: return b == 0 ? 0 : a / b;
                    }
                }
            }
            if (t.charAt(0) == '-') {
                return -value(t.substring(1), letters);
            }
            if (t.charAt(0) == '(') {
                return value(t.substring(1, t.length() - 1), letters);
            }
            int letter = "arswxlj".indexOf(t.charAt(0));
            return letter >= 0 ? letters[letter] : Integer.parseInt(t);
        }

        int main(int step) {
            int[] p = steps.get(step).parts;
            int most = 0;
            for (int i = 0; i < 8; i++) {
                most = p[i] > p[most] ? i : most;
            }
            return most;
        }

        int price(int law, int step, int from, int leapt, int load) {
            Step s = steps.get(step);
            if (laws[law].isEmpty()) {
                return law == 1 || s.widow == 1 ? 0 : s.asks;
            }
            int x = from >= 0 && feuds[main(step)][main(from)] ? 1 : 0;
            return Math.max(0, Math.min(99, value(laws[law], new int[] {s.asks, s.rise, s.state, s.widow, x, load, leapt})));
        }

        int moveCost(int from, int to, int load) {
            int sum = price(0, to, from, to - from - 1, load);
            for (int i = from + 1; i < to; i++) {
                sum += price(1, i, from, to - from - 1, load);
            }
            return sum;
        }

        int moveEffort(int from, int to, int load) {
            int rises = 0;
            for (int i = from + 1; i <= to; i++) {
                rises += steps.get(i).rise;
            }
            return rises * (10 + load) / 10 + 9 - steps.get(to).state + 5 * (to - from - 1);
        }

        int step(int s, int what) {
            if (!isStep(s) || what < 0 || what > 4) {
                return -777;
            }
            Step one = steps.get(s);
            return new int[] {one.rise, one.state, one.asks, one.widow, main(s)}[what];
        }

        int set(int s, int what, int v) {
            if (!isStep(s) || what < 0 || what > 1 || v < 0 || v > (what == 0 ? 20 : 9)) {
                return -1;
            }
            Step one = steps.get(s);
            int was = what == 0 ? one.asks : one.state;
            if (what == 0) {
                one.asks = v;
            } else {
                one.state = v;
            }
            return was;
        }

        int sheet(int kind, int many, int f, int by) {
            if (kind < 0 || kind > 3 || many > 24) {
                return -1;
            }
            if (kind == 3) {
                for (Step s : steps) {
                    s.asks = 0;
                }
                return -3;
            }
            if (many < 0) {
                return -2;
            }
            int sum = 0;
            int v = f;
            for (int i = 0; i < n; i++) {
                int entry = kind == 0 ? (byte) v : kind == 1 ? (short) v : v;
                steps.get(i).asks = i < many ? Math.max(0, Math.min(20, entry)) : 0;
                sum += steps.get(i).asks;
                v += by;
            }
            return sum;
        }

        boolean feud(int a, int b, boolean is) {
            if (a < 0 || a > 7 || b < 0 || b > 7 || a == b) {
                return false;
            }
            feuds[a][b] = is;
            feuds[b][a] = is;
            return true;
        }

        int wears(int k) {
            if (k < 0 || k > 9) {
                return -1;
            }
            int sum = 0;
            for (Step s : steps) {
                s.state = Math.max(0, s.state - k);
                sum += s.state;
            }
            return sum;
        }

        int pilgrim(int knees, int purse, int leap, int load) {
            if (knees < 1 || knees > 120 || purse < 0 || purse > 999 || leap < 1 || leap > 3 || load < 0 || load > 50
                || pilgrims.size() == 6) {
                return -1;
            }
            Walker w = new Walker();
            w.knees = w.kneesLeft = knees;
            w.purse = w.purseLeft = purse;
            w.leap = leap;
            w.load = load;
            pilgrims.add(w);
            return pilgrims.size() - 1;
        }

        int vow(int p, int f) {
            if (!has(p) || f < 0 || f > 255) {
                return -1;
            }
            int was = pilgrims.get(p).vow;
            pilgrims.get(p).vow = f;
            return was;
        }

        int of(int p, int what) {
            if (!has(p) || what < 0 || what > 7) {
                return -777;
            }
            Walker w = pilgrims.get(p);
            return new int[] {w.at, w.kneesLeft, w.purseLeft, w.leap, w.load, w.vow, w.knees, w.purse}[what];
        }

        int costs(int p, int s) {
            if (!has(p) || !isStep(s)) {
                return -1;
            }
            Walker w = pilgrims.get(p);
            if (s <= w.at || s > w.at + w.leap) {
                return -2;
            }
            row = new long[] {moveEffort(w.at, s, w.load), s - w.at - 1};
            return moveCost(w.at, s, w.load);
        }

        int[] divided(int coppers, int[] parts, int whole) {
            int[] out = new int[8];
            int left = coppers;
            List<int[]> rests = new ArrayList<>();
            for (int i = 0; i < 8; i++) {
                out[i] = coppers * parts[i] / whole;
                left -= out[i];
                rests.add(new int[] {coppers * parts[i] % whole, i});
            }
            rests.sort((a, b) -> a[0] != b[0] ? b[0] - a[0] : a[1] - b[1]);
            for (int k = 0; k < left; k++) {
                out[rests.get(k)[1]]++;
            }
            return out;
        }

        void lead(int coppers, int s, int direction) {
            int[] out = divided(coppers, steps.get(s).parts, 720);
            for (int i = 0; i < 8; i++) {
                earned[i] += direction * out[i];
            }
        }

        int tread(int p, int s) {
            if (!has(p) || !isStep(s)) {
                return -1;
            }
            Walker w = pilgrims.get(p);
            if (s <= w.at || s > w.at + w.leap) {
                return -2;
            }
            if ((w.vow >> main(s) & 1) == 1) {
                return -3;
            }
            if (moveEffort(w.at, s, w.load) > w.kneesLeft) {
                return -4;
            }
            int cost = moveCost(w.at, s, w.load);
            if (cost > w.purseLeft) {
                return -5;
            }
            lead(price(0, s, w.at, s - w.at - 1, w.load), s, 1);
            for (int i = w.at + 1; i < s; i++) {
                lead(price(1, i, w.at, s - w.at - 1, w.load), i, 1);
            }
            w.kneesLeft -= moveEffort(w.at, s, w.load);
            w.purseLeft -= cost;
            w.at = s;
            return cost;
        }

        int rests(int p, int k) {
            if (!has(p) || k < 1 || k > 30) {
                return -1;
            }
            Walker w = pilgrims.get(p);
            int pay = w.at < 0 ? 0 : price(0, w.at, w.at, 0, w.load);
            if (pay > w.purseLeft) {
                return -5;
            }
            if (w.at >= 0) {
                lead(pay, w.at, 1);
            }
            w.purseLeft -= pay;
            w.kneesLeft = Math.min(w.knees, w.kneesLeft + k);
            return pay;
        }

        int returns(int p) {
            if (!has(p)) {
                return -1;
            }
            Walker w = pilgrims.get(p);
            int was = w.at;
            w.at = -1;
            w.kneesLeft = w.knees;
            return was;
        }

        int[] sums() {
            int[] sum = new int[8];
            for (Step s : steps) {
                for (int i = 0; i < 8; i++) {
                    sum[i] += s.parts[i];
                }
            }
            return sum;
        }

        int earned(int f) {
            if (f < 0 || f > 7) {
                return -1;
            }
            row = new long[] {sums()[f]};
            return earned[f];
        }

        /** All climbs that break no vow, whatever they cost. */
        List<Way> climbs(int p) {
            List<Way> out = new ArrayList<>();
            Walker w = pilgrims.get(p);
            cost = new int[n + 1][4];
            effort = new int[n + 1][4];
            for (int at = -1; at < n; at++) {
                for (int far = 1; far <= w.leap && at + far < n; far++) {
                    cost[at + 1][far] = moveCost(at, at + far, w.load);
                    effort[at + 1][far] = moveEffort(at, at + far, w.load);
                }
            }
            if (n > 0) {
                collect(w, -1, new Way(), out);
            }
            return out;
        }

        void collect(Walker w, int at, Way way, List<Way> out) {
            if (at == n - 1) {
                Way done = new Way();
                done.steps.addAll(way.steps);
                done.cost = way.cost;
                done.effort = way.effort;
                out.add(done);
                return;
            }
            for (int to = at + 1; to <= at + w.leap && to < n; to++) {
                if ((w.vow >> main(to) & 1) == 1 || to == closed) {
                    continue;
                }
                way.steps.add(to);
                way.cost += cost[at + 1][to - at];
                way.effort += effort[at + 1][to - at];
                collect(w, to, way, out);
                way.steps.remove(way.steps.size() - 1);
                way.cost -= cost[at + 1][to - at];
                way.effort -= effort[at + 1][to - at];
            }
        }

        List<Way> canBe(int p) {
            List<Way> out = new ArrayList<>();
            Walker w = pilgrims.get(p);
            for (Way way : climbs(p)) {
                if (way.cost <= w.purse && way.effort <= w.knees) {
                    out.add(way);
                }
            }
            return out;
        }

        int someCost(int p, Random random) {
            if (!has(p)) {
                return 3;
            }
            List<Way> list = canBe(p);
            return list.isEmpty() ? 5 : list.get(random.nextInt(list.size())).cost;
        }

        static int compare(Way a, Way b) {
            int[] first = {a.cost, a.effort, a.steps.size()};
            int[] second = {b.cost, b.effort, b.steps.size()};
            for (int i = 0; i < 3; i++) {
                if (first[i] != second[i]) {
                    return first[i] - second[i];
                }
            }
            for (int i = 0; i < a.steps.size(); i++) {
                if (!a.steps.get(i).equals(b.steps.get(i))) {
                    return a.steps.get(i) - b.steps.get(i);
                }
            }
            return 0;
        }

        Way best(Walker w) {
            Way best = null;
            for (Way way : canBe(pilgrims.indexOf(w))) {
                if (best == null || compare(way, best) < 0) {
                    best = way;
                }
            }
            return best;
        }

        int climb(int p) {
            if (!has(p) || n == 0) {
                return -1;
            }
            Way way = best(pilgrims.get(p));
            if (way == null) {
                return -2;
            }
            row = new long[2 + way.steps.size()];
            row[0] = way.effort;
            row[1] = way.steps.size();
            for (int i = 0; i < way.steps.size(); i++) {
                row[2 + i] = way.steps.get(i);
            }
            return way.cost;
        }

        int knees(int p) {
            if (!has(p) || n == 0) {
                return -1;
            }
            int least = 1000;
            int cost = 0;
            for (Way way : climbs(p)) {
                if (way.cost <= pilgrims.get(p).purse && (way.effort < least || way.effort == least && way.cost < cost)) {
                    least = way.effort;
                    cost = way.cost;
                }
            }
            if (least > 999) {
                return -2;
            }
            row = new long[] {cost};
            return least;
        }

        long ways(int p, int cost) {
            if (!has(p) || cost < 0 || cost > 999) {
                return -1;
            }
            int least = 100000;
            int many = 0;
            int easy = 0;
            for (Way way : canBe(p)) {
                if (way.cost == cost) {
                    many++;
                    easy = way.effort < least ? 1 : way.effort == least ? easy + 1 : easy;
                    least = Math.min(least, way.effort);
                }
            }
            row = new long[] {easy};
            return many;
        }

        int trod(int p, int cost, int s) {
            if (!has(p) || cost < 0 || cost > 999 || !isStep(s)) {
                return -1;
            }
            int many = 0;
            int with = 0;
            for (Way way : canBe(p)) {
                if (way.cost == cost) {
                    many++;
                    with += way.steps.contains(s) ? 1 : 0;
                }
            }
            if (many == 0) {
                return -2;
            }
            for (int k = many; k > 1; k--) {
                if (many % k == 0 && with % k == 0) {
                    many /= k;
                    with /= k;
                }
            }
            row = new long[] {with, many};
            return 0;
        }

        int who(int spent, int s) {
            if (spent < 0 || spent > 999 || !isStep(s)) {
                return -1;
            }
            int bits = 0;
            for (int p = 0; p < pilgrims.size(); p++) {
                for (Way way : canBe(p)) {
                    if (way.cost == spent && way.steps.contains(s)) {
                        bits |= 1 << p;
                    }
                }
            }
            return bits;
        }

        int next(int p, int cost) {
            if (!has(p) || cost < -1 || cost > 998 || n == 0) {
                return -1;
            }
            Way found = null;
            for (Way way : canBe(p)) {
                if (way.cost > cost && (found == null || compare(way, found) < 0)) {
                    found = way;
                }
            }
            if (found == null) {
                return -2;
            }
            row = new long[] {found.effort};
            return found.cost;
        }

        int bears(int p) {
            if (!has(p) || n == 0) {
                return -1;
            }
            Walker w = pilgrims.get(p);
            int load = w.load;
            int answer = -2;
            for (int l = 0; l <= 50; l++) {
                w.load = l;
                Way way = best(w);
                if (way != null) {
                    answer = l;
                    row = new long[] {way.cost};
                }
            }
            w.load = load;
            return answer;
        }

        int breaks(int p) {
            if (!has(p) || n == 0) {
                return -1;
            }
            Walker w = pilgrims.get(p);
            int vow = w.vow;
            int answer = -2;
            int least = 0;
            for (int f = 0; f < 8; f++) {
                if ((vow >> f & 1) == 1) {
                    w.vow = vow - (1 << f);
                    Way way = best(w);
                    if (way != null && (answer == -2 || way.cost < least)) {
                        answer = f;
                        least = way.cost;
                    }
                }
            }
            w.vow = vow;
            if (answer != -2) {
                Way way = best(w);
                row = new long[] {least, way == null ? -1 : way.cost};
            }
            return answer;
        }

        int[] total() {
            int[] out = new int[3];
            for (Walker w : pilgrims) {
                Way way = best(w);
                if (way != null) {
                    out[0]++;
                    out[1] += way.cost;
                    out[2] += way.effort;
                }
            }
            return out;
        }

        int all() {
            int[] t = total();
            row = new long[] {t[0], t[2]};
            return t[1];
        }

        int difference(int[] then, int[] now) {
            row = new long[] {then[0] - now[0], then[1] - now[1], then[2] - now[2]};
            return row[0] != 0 || row[1] != 0 || row[2] != 0 ? 1 : 0;
        }

        int whole(int s) {
            if (!isStep(s)) {
                return -1;
            }
            int[] now = total();
            int was = steps.get(s).state;
            steps.get(s).state = 9;
            int[] then = total();
            steps.get(s).state = was;
            return difference(then, now);
        }

        int mends(int s) {
            if (!isStep(s)) {
                return -1;
            }
            int coppers = (9 - steps.get(s).state) * steps.get(s).rise;
            lead(coppers, s, -1);
            steps.get(s).state = 9;
            return coppers;
        }

        int shut(int s) {
            if (!isStep(s)) {
                return -1;
            }
            int[] now = total();
            closed = s;
            int[] then = total();
            closed = -1;
            return difference(then, now);
        }

        int toll(int s) {
            if (!isStep(s)) {
                return -1;
            }
            int was = steps.get(s).asks;
            steps.get(s).asks = 0;
            int many = total()[0];
            int answer = 0;
            for (int v = 1; v <= 20; v++) {
                steps.get(s).asks = v;
                answer = total()[0] == many ? v : answer;
            }
            steps.get(s).asks = was;
            row = new long[] {many};
            return answer;
        }

        int peace() {
            int now = total()[0];
            int answer = -2;
            int least = 0;
            int many = 0;
            for (int a = 0; a < 8; a++) {
                for (int b = a + 1; b < 8; b++) {
                    if (feuds[a][b]) {
                        feud(a, b, false);
                        int[] t = total();
                        feud(a, b, true);
                        if (t[0] >= now && (answer == -2 || t[1] < least)) {
                            answer = a * 10 + b;
                            least = t[1];
                            many = t[0];
                        }
                    }
                }
            }
            if (answer != -2) {
                row = new long[] {least, many};
            }
            return answer;
        }

        /** Tries all sets of lamps; of the fewest, the one whose lamps are highest, from the first on. */
        int lamps(int d) {
            if (d < 0 || d > 23 || n == 0) {
                return -1;
            }
            List<Integer> found = null;
            for (int bits = 1; bits < 1 << Math.min(n, 12); bits++) {
                List<Integer> lamps = new ArrayList<>();
                for (int i = 0; i < n; i++) {
                    if ((bits >> i & 1) == 1) {
                        lamps.add(i);
                    }
                }
                boolean lit = true;
                for (int i = 0; i < n; i++) {
                    boolean near = false;
                    for (int l : lamps) {
                        near |= Math.abs(l - i) <= d;
                    }
                    lit &= near;
                }
                if (lit && (found == null || lamps.size() < found.size() || lamps.size() == found.size() && higher(lamps, found))) {
                    found = lamps;
                }
            }
            if (n > 12) {
                found = new ArrayList<>();
                for (int dark = 0; dark < n; dark = found.get(found.size() - 1) + d + 1) {
                    found.add(Math.min(n - 1, dark + d));
                }
            }
            row = new long[found.size()];
            for (int i = 0; i < row.length; i++) {
                row[i] = found.get(i);
            }
            return row.length;
        }

        static boolean higher(List<Integer> a, List<Integer> b) {
            for (int i = 0; i < a.size(); i++) {
                if (!a.get(i).equals(b.get(i))) {
                    return a.get(i) > b.get(i);
                }
            }
            return false;
        }

        int paidTo(int s, int v) {
            int was = steps.get(s).asks;
            steps.get(s).asks = v;
            int sum = 0;
            for (Walker w : pilgrims) {
                Way way = best(w);
                int from = -1;
                for (int i = 0; way != null && i < way.steps.size(); i++) {
                    int to = way.steps.get(i);
                    if (to == s) {
                        sum += price(0, s, from, to - from - 1, w.load);
                    } else if (from < s && s < to) {
                        sum += price(1, s, from, to - from - 1, w.load);
                    }
                    from = to;
                }
            }
            steps.get(s).asks = was;
            return sum;
        }

        int would(int s, int v) {
            return isStep(s) && v >= 0 && v <= 20 ? paidTo(s, v) : -1;
        }

        int best(int s) {
            if (!isStep(s)) {
                return -1;
            }
            int answer = 0;
            int most = -1;
            for (int v = 0; v <= 20; v++) {
                int paid = paidTo(s, v);
                if (paid > most) {
                    most = paid;
                    answer = v;
                }
            }
            row = new long[] {most};
            return answer;
        }

        int market(int rounds) {
            if (rounds < 1 || rounds > 3 || n == 0) {
                return -1;
            }
            int changes = 0;
            boolean changed = false;
            for (int k = 0; k < rounds; k++) {
                changed = false;
                for (int s = 0; s < n; s++) {
                    int v = best(s);
                    if (paidTo(s, steps.get(s).asks) != row[0]) {
                        steps.get(s).asks = v;
                        changed = true;
                    }
                }
                changes += changed ? 1 : 0;
            }
            int sum = 0;
            for (Step s : steps) {
                sum += s.asks;
            }
            row = new long[] {changed ? 0 : 1, sum};
            return changes;
        }

        int parts(int s, int f) {
            return isStep(s) && f >= 0 && f <= 7 ? steps.get(s).parts[f] : -1;
        }

        void remember() {
            List<int[]> past = new ArrayList<>();
            for (Step s : steps) {
                past.add(s.parts.clone());
            }
            sales.add(past);
            if (sales.size() > 8) {
                sales.remove(0);
            }
        }

        int sells(int s, int from, int to, int up, int low) {
            if (!isStep(s) || from < 0 || from > 7 || to < 0 || to > 7 || from == to) {
                return -1;
            }
            if (up < 1 || up > 9 || low < 1 || low > 9 || up > low) {
                return -1;
            }
            int moved = steps.get(s).parts[from] * up / low;
            if (moved == 0) {
                return -1;
            }
            remember();
            steps.get(s).parts[from] -= moved;
            steps.get(s).parts[to] += moved;
            return moved;
        }

        int dies(int f, int heirs) {
            if (f < 0 || f > 7 || heirs < 1 || heirs > 255 || (heirs >> f & 1) == 1) {
                return -1;
            }
            int moved = sums()[f];
            if (moved == 0) {
                return 0;
            }
            remember();
            for (Step s : steps) {
                int h = 0;
                while (s.parts[f] > 0) {
                    if ((heirs >> h % 8 & 1) == 1) {
                        s.parts[h % 8]++;
                        s.parts[f]--;
                    }
                    h++;
                }
            }
            return moved;
        }

        int undo() {
            if (sales.isEmpty()) {
                return -1;
            }
            List<int[]> past = sales.remove(sales.size() - 1);
            for (int i = 0; i < n; i++) {
                steps.get(i).parts = past.get(i);
            }
            return sales.size();
        }

        int rail(int k) {
            if (k < 0 || k > 9999 || n == 0) {
                return -1;
            }
            int[] out = divided(k, sums(), 720 * n);
            row = new long[8];
            int some = 0;
            for (int i = 0; i < 8; i++) {
                row[i] = out[i];
                some += out[i] > 0 ? 1 : 0;
            }
            return some;
        }

        int rules(int what, int s) {
            if (what < 0 || what > 1 || n == 0 || what == 0 && !isStep(s)) {
                return -1;
            }
            for (int size = 1; size <= 8; size++) {
                for (int bits = 1; bits < 256; bits++) {
                    if (Integer.bitCount(bits) != size) {
                        continue;
                    }
                    int sum = 0;
                    for (int i = 0; i < 8 && what == 0; i++) {
                        sum += (bits >> i & 1) == 1 ? steps.get(s).parts[i] : 0;
                    }
                    for (int i = 0; i < n && what == 1; i++) {
                        sum += bits >> main(i) & 1;
                    }
                    if (what == 0 ? sum > 360 : sum > n - sum) {
                        row = new long[] {bits};
                        return size;
                    }
                }
            }
            return -999;
        }

        int[] waited = new int[6];
        int[] jams = new int[24];
        int crowd = 0;

        int hold(int room) {
            waited = new int[6];
            jams = new int[24];
            crowd = 0;
            List<Way> paths = new ArrayList<>();
            int[] at = new int[6];
            Arrays.fill(at, -1);
            for (Walker w : pilgrims) {
                paths.add(best(w));
            }
            for (int minute = 0;; minute++) {
                List<Integer> order = new ArrayList<>();
                for (int p = 0; p < paths.size(); p++) {
                    if (paths.get(p) != null && at[p] != n - 1) {
                        order.add(p);
                    }
                }
                if (order.isEmpty()) {
                    return minute;
                }
                order.sort((a, b) -> at[a] != at[b] ? at[b] - at[a] : a - b);
                for (int p : order) {
                    List<Integer> path = paths.get(p).steps;
                    int to = path.get(path.indexOf(at[p]) + 1);
                    int there = 0;
                    for (int q = 0; q < paths.size(); q++) {
                        there += paths.get(q) != null && at[q] == to ? 1 : 0;
                    }
                    if (to == n - 1 || there < room) {
                        at[p] = to;
                    } else {
                        waited[p]++;
                        jams[to]++;
                    }
                }
                for (int s = 0; s < n - 1; s++) {
                    int there = 0;
                    for (int q = 0; q < paths.size(); q++) {
                        there += paths.get(q) != null && at[q] == s ? 1 : 0;
                    }
                    crowd = Math.max(crowd, there);
                }
            }
        }

        int feast(int room) {
            if (room < 1 || room > 6 || n == 0) {
                return -1;
            }
            int minutes = hold(room);
            int who = -1;
            int most = 0;
            for (int p = 0; p < 6; p++) {
                if (waited[p] > most) {
                    most = waited[p];
                    who = p;
                }
            }
            row = new long[] {most, who, crowd};
            return minutes;
        }

        int jam() {
            if (n == 0) {
                return -2;
            }
            hold(1);
            int most = 0;
            int answer = -2;
            for (int s = 0; s < n; s++) {
                if (jams[s] > most) {
                    most = jams[s];
                    answer = s;
                }
            }
            if (answer != -2) {
                row = new long[] {most};
            }
            return answer;
        }

        boolean keep(int i) {
            if (i < 0 || i > 1) {
                return false;
            }
            Box box = new Box();
            for (Step s : steps) {
                box.steps.add(s.copy());
            }
            for (Walker w : pilgrims) {
                box.walkers.add(new int[] {w.at, w.kneesLeft, w.purseLeft});
            }
            box.earned = earned.clone();
            boxes[i] = box;
            return true;
        }

        boolean again(int i) {
            if (i < 0 || i > 1 || boxes[i] == null) {
                return false;
            }
            Box box = boxes[i];
            for (int s = 0; s < n; s++) {
                steps.set(s, box.steps.get(s).copy());
            }
            for (int p = 0; p < box.walkers.size(); p++) {
                Walker w = pilgrims.get(p);
                w.at = box.walkers.get(p)[0];
                w.kneesLeft = box.walkers.get(p)[1];
                w.purseLeft = box.walkers.get(p)[2];
            }
            earned = box.earned.clone();
            sales.clear();
            return true;
        }

        int count(int what) {
            int sum = 0;
            for (int e : earned) {
                sum += e;
            }
            int many = 0;
            for (int a = 0; a < 8; a++) {
                for (int b = 0; b < a; b++) {
                    many += feuds[a][b] ? 1 : 0;
                }
            }
            int told = (laws[0].isEmpty() ? 0 : 1) + (laws[1].isEmpty() ? 0 : 2);
            int[] all = {n, pilgrims.size(), told, sales.size(), sum, many, row.length, text.length()};
            return what >= 0 && what < 8 ? all[what] : -1;
        }
    }
}
