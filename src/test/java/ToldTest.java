/** Promises 37 to 43: asked, upper, lower, count, finding, findings, digest; and the constants. */
public final class ToldTest {
    private static final int NONE = ForfeitBook.NONE;
    private static final int GOES = 0, MOVES = 1, STRIKES = 2, FELL = 3;

    public static void main(String[] args) {
        constants();
        asked();
        fraction();
        count();
        findings();
        digestOfNew();
        digest();
        Check.end();
    }

    private static void constants() {
        Check.due("BAD", ForfeitBook.BAD, -1);
        Check.due("FULL", ForfeitBook.FULL, -2);
        Check.due("FINDING", ForfeitBook.FINDING, -3);
        Check.due("STATE", ForfeitBook.STATE, -4);
        Check.due("NONE", ForfeitBook.NONE, -9);
    }

    /** A book in which every call that tells by asked() tells another number. */
    private static ForfeitBook book() {
        ForfeitBook x = new ForfeitBook();
        x.row(0, 2);
        x.row(3, 1);
        x.lay(0, 1, 77);
        x.lay(3, 0, -5);
        x.thing(1, 4, 100, NONE);
        x.thing(0, 5, 30, NONE);
        x.thing(3, 9, 12, 1);
        x.on(1, 0);
        x.text(1200, 1, true, 16);
        x.text(1300, 2, false, 3);
        x.grant(6, 2, 1250, 1350, 512, 5);
        x.death(2, 1300, 44);
        x.act(0, GOES, 0, 5, true);
        x.act(0, STRIKES, 1, 6, false);
        x.act(0, MOVES, 0, 2, false);
        x.act(0, FELL, 2, 0, true);
        x.death(2, 1250, NONE);
        x.act(1, FELL, 2, 1, true);
        return x;
    }

    private static void asked() {
        ForfeitBook x = book();
        Check.told(x, "lay", () -> x.lay(0, 1, 8), 1, 77);
        Check.told(x, "told", () -> x.told(0, 2), 1, 100);
        Check.told(x, "mean", () -> x.mean(5), 1, 30);
        Check.told(x, "deathTold", () -> x.deathTold(0, 1), 1, 1300);
        Check.told(x, "moving", () -> x.moving(0, 0), 2, 3);
        Check.told(x, "blame", () -> x.blame(0, 1), 2, 3);
        Check.told(x, "forfeit", () -> x.forfeit(0, 0, 0), 1, 4);
        Check.told(x, "value", () -> x.value(0, 1), 142, 3);
        Check.told(x, "sure", () -> x.sure(1, true), 1, 4);
        Check.told(x, "settle", () -> x.settle(0), 1, 1);
        Check.still(x, "settle, NONE", () -> x.settle(1), NONE);
        Check.told(x, "due", () -> x.due(0), 0, 0);
        Check.told(x, "shortfall", () -> x.shortfall(1000, 1900), 1, -44);
        Check.told(x, "taker", () -> x.taker(1, 2), 6, 5);
        Check.still(x, "taker, NONE", () -> x.taker(1, 1), NONE);
        Check.told(x, "takes", () -> x.takes(9, 1000, 1900), 1, 7);
        Check.told(x, "otherwise", () -> x.otherwise(1, false, 0), 1, 2);
        Check.told(x, "freed", () -> x.freed(1, false, 0), 1, 2);
        Check.told(x, "shift", () -> x.shift(1, false, 0, 10), 1, -12);
        Check.due("digest() tells nothing by asked()", x.asked(), -12);
        x.digest();
        Check.due("digest() tells nothing by asked()", x.asked(), -12);
    }

    private static void fraction() {
        ForfeitBook x = book();
        x.jury(1, 5);
        Check.due("upper() before", x.upper(), 0);
        Check.due("lower() before", x.lower(), 1);
        Check.due("habit", x.habit(2, 1250, 1250), 0);
        Check.due("upper()", x.upper(), 1);
        Check.due("lower()", x.lower(), 2);
        Check.due("habit, nought", x.habit(3, 1000, 1900), ForfeitBook.FINDING);
        Check.due("worstPlace", x.worstPlace(1000, 1900), 2);
        x.due(0);
        Check.due("upper() stays", x.upper(), 1);
        Check.due("lower() stays", x.lower(), 2);
        x.jury(1, 6);
        x.habit(2, 1250, 1250);
        Check.due("upper() of another one", x.upper(), 1);
        Check.due("lower() of another one", x.lower(), 1);
    }

    private static void count() {
        ForfeitBook x = book();
        int[] due = {3, 2, 5, 2, 1, 2};
        for (int what = 0; what <= 5; what++) {
            int asked = what;
            Check.still(x, "count(" + what + ")", () -> x.count(asked), due[what]);
        }
        Check.bad(x, "count(6)", () -> x.count(6));
        Check.bad(x, "count(-1)", () -> x.count(-1));
        Check.bad(x, "count(NONE)", () -> x.count(NONE));
        x.row(1, 0);
        x.tear(0);
        x.tear(3);
        Check.due("count(5)", x.count(5), 1);
        x.acts(0, 1);
        Check.due("count(2)", x.count(2), 1);
    }

    private static void findings() {
        ForfeitBook x = book();
        for (int round = 0; round < 3; round++) {
            Check.finding(x, "NOTHING", 1, () -> x.tear(5));
            Check.finding(x, "BEYOND", 2, () -> x.lay(0, 2, 1));
            Check.finding(x, "UNLIKE", 3, () -> x.mark(0, 3));
            Check.finding(x, "NOUGHT", 4, () -> x.mean(0));
            Check.finding(x, "SIZE", 5, () -> x.row(0, -1));
        }
        Check.finding(x, "BEYOND", 2, () -> x.lay(0, -1, 1));
        int[] due = {0, 3, 4, 3, 3, 3};
        for (int f = 1; f <= 5; f++) {
            Check.due("findings(" + f + ")", x.findings(f), due[f]);
        }
        x.row(0, 4);
        x.worth(0, 0);
        x.tear(-1);
        x.on(0, 1);
        Check.due("finding() stays", x.finding(), 2);
        Check.bad(x, "findings(0)", () -> x.findings(0));
        Check.bad(x, "findings(6)", () -> x.findings(6));
        Check.bad(x, "findings(-3)", () -> x.findings(-3));
    }

    private static long mixed(long start, int... values) {
        long h = start;
        for (int v : values) {
            h = 31 * h + v;
        }
        return h;
    }

    private static void digestOfNew() {
        long due = mixed(17, 0, 0, 0, 0, 0, 0, -1, -1, -1, -1, -1, -1);
        Check.due("digest() of a new object", new ForfeitBook().digest(), due);
    }

    private static void digest() {
        ForfeitBook x = book();
        long due = mixed(17, 3, 2, 5, 2, 1, 2);
        due = mixed(due, 1, 4, 100, NONE, 0, 100, NONE);
        due = mixed(due, 0, 5, 30, NONE, 1, 42, 0);
        due = mixed(due, 3, 9, 12, 1, 1, 12, NONE);
        due = mixed(due, 2, 1300, 44, 4, 2, 4);
        due = mixed(due, 0, 0, NONE, 1, 2, 1, NONE, 0, 1, 0, 2, 0, 3, 2, NONE, 1);
        due = mixed(due, 2, 1250, NONE, 1, 0, 1);
        due = mixed(due, 3, 2, NONE, 1);
        due = mixed(due, 1200, 1, 1, 16, 1300, 2, 0, 3);
        due = mixed(due, 6, 2, 1250, 1350, 512, 5);
        due = mixed(due, 2, 0, 77, -1, -1, 1, -5, -1, -1);
        Check.due("digest()", x.digest(), due);
        Check.due("digest() again", x.digest(), due);
    }
}
