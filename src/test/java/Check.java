import java.util.function.IntSupplier;

/** What the tests of the project share: answers held against those that are due, and refusals that change nothing. */
final class Check {
    private static int wrong = 0;
    private static String heading = "";

    private Check() {
    }

    /** What is told ahead of each wrong answer from here on. */
    static void under(String words) {
        heading = words + ": ";
    }

    static void due(String call, long got, long want) {
        if (got != want) {
            wrong++;
            System.out.println(heading + call + " answered " + got + ", due is " + want);
        }
    }

    /** A call that answers and tells something by asked(). */
    static void told(ForfeitBook x, String call, IntSupplier made, int answer, int asked) {
        due(call, made.getAsInt(), answer);
        due(call + ", asked()", x.asked(), asked);
    }

    /** A call that changes something and answers, but tells nothing by asked(), upper() and lower(). */
    static void quiet(ForfeitBook x, String call, IntSupplier made, int answer) {
        long asked = x.asked(), upper = x.upper(), lower = x.lower();
        due(call, made.getAsInt(), answer);
        due(call + ", then asked()", x.asked(), asked);
        due(call + ", then upper()", x.upper(), upper);
        due(call + ", then lower()", x.lower(), lower);
    }

    static void bad(ForfeitBook x, String call, IntSupplier made) {
        refused(x, call, made, ForfeitBook.BAD, 0);
    }

    static void full(ForfeitBook x, String call, IntSupplier made) {
        refused(x, call, made, ForfeitBook.FULL, 0);
    }

    static void state(ForfeitBook x, String call, IntSupplier made) {
        refused(x, call, made, ForfeitBook.STATE, 0);
    }

    static void finding(ForfeitBook x, String call, int finding, IntSupplier made) {
        refused(x, call, made, ForfeitBook.FINDING, finding);
    }

    /** A call that answers without telling anything by asked(), and changes nothing at all. */
    static void still(ForfeitBook x, String call, IntSupplier made, int answer) {
        refused(x, call, made, answer, 0);
    }

    private static void refused(ForfeitBook x, String call, IntSupplier made, int answer, int finding) {
        long[] before = stateOf(x);
        due(call, made.getAsInt(), answer);
        long[] after = stateOf(x);
        if (finding != 0) {
            before[4] = finding;
            before[4 + finding]++;
        }
        String[] names = {"digest()", "asked()", "upper()", "lower()", "finding()",
            "findings(1)", "findings(2)", "findings(3)", "findings(4)", "findings(5)"};
        for (int i = 0; i < names.length; i++) {
            due(call + ", then " + names[i], after[i], before[i]);
        }
    }

    private static long[] stateOf(ForfeitBook x) {
        return new long[] {x.digest(), x.asked(), x.upper(), x.lower(), x.finding(),
            x.findings(1), x.findings(2), x.findings(3), x.findings(4), x.findings(5)};
    }

    static void isTrue(String what, boolean holds) {
        due(what, holds ? 1 : 0, 1);
    }

    static void end() {
        if (wrong != 0) {
            System.out.println(wrong + " answers are not as due");
            System.exit(1);
        }
    }
}
