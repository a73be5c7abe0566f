import java.util.NoSuchElementException;

/** What is due, sentence by sentence of the document. */
final class Due {
    private static final int MOST_PRINTED = 50;
    private static final Document DOCUMENT = new Document();
    private static int wrong = 0;
    private static int sentences = 0;
    private static String now = "";

    private Due() {
    }

    /** A test of its own begins: of words of a promise (0: of the terms). */
    static void sentence(int promise, String words) {
        now = (promise == 0 ? "terms" : "promise " + promise) + ", \"" + words + "\"";
        sentences++;
        if (!DOCUMENT.quote(promise, words)) {
            fail("the document does not say so");
        }
    }

    static void term(String words) {
        sentence(0, words);
    }

    static void fail(String what) {
        wrong++;
        if (wrong <= MOST_PRINTED) {
            System.out.println(now + ": " + what);
        }
    }

    static void is(String call, long got, long want) {
        if (got != want) {
            fail(call + " answered " + got + ", due is " + want);
        }
    }

    static void is(String call, boolean got, boolean want) {
        is(call, got ? 1 : 0, want ? 1 : 0);
    }

    static String rowOf(StairsInSteps x) {
        StringBuilder sb = new StringBuilder();
        for (int i = 0; i < x.count(6); i++) {
            sb.append(x.row(i)).append(' ');
        }
        return sb.toString();
    }

    static void row(StairsInSteps x, long... want) {
        StringBuilder right = new StringBuilder();
        for (long number : want) {
            right.append(number).append(' ');
        }
        String got = rowOf(x);
        if (!got.equals(right.toString())) {
            fail("the row is " + got + ", due is " + right);
        }
    }

    static boolean throwsNoSuch(Runnable call) {
        try {
            call.run();
            return false;
        } catch (NoSuchElementException e) {
            return true;
        }
    }

    static void noSuch(String call, Runnable asked) {
        if (!throwsNoSuch(asked)) {
            fail(call + " did not throw NoSuchElementException");
        }
    }

    /** Ends the test; what of these promises names a boundary has to have been quoted. */
    static void finish(int first, int last) {
        now = "promises " + first + " to " + last;
        for (String left : DOCUMENT.notQuoted(first, last)) {
            fail("no test of " + left);
        }
        System.out.println(wrong == 0 ? sentences + " sentences hold" : wrong + " answers are not as due");
        if (wrong != 0) {
            System.exit(1);
        }
    }
}
