/** Texts led into an object, four signs a call. */
final class Tell {
    private Tell() {
    }

    /** THE TEXT becomes this one. */
    static void text(StairsInSteps x, String text) {
        x.end(0);
        for (int i = 0; i < text.length(); i += 4) {
            int v = 0;
            for (int k = 0; k < 4; k++) {
                v = v << 8 | (i + k < text.length() ? text.charAt(i + k) : 0);
            }
            x.sign(v);
        }
        x.end(text.length());
    }

    static int stairs(StairsInSteps x, String text) {
        text(x, text);
        return x.stairs();
    }

    static int law(StairsInSteps x, int i, String text) {
        text(x, text);
        return x.law(i);
    }

    /** A new object with these stairs, which have to be right. */
    static StairsInSteps with(String text) {
        StairsInSteps x = new StairsInSteps();
        int steps = stairs(x, text);
        if (steps < 2) {
            throw new IllegalStateException("the test's own stairs are wrong: " + text + " answered " + steps);
        }
        return x;
    }

    static String times(String part, int n) {
        return part.repeat(n);
    }
}
