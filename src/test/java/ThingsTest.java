/** Promises 6 to 11: thing, on, told, mark, worth, mean. */
public final class ThingsTest {
    private static final int NONE = ForfeitBook.NONE;
    private static final int MIN = Integer.MIN_VALUE, MAX = Integer.MAX_VALUE;
    private static final int UNLIKE = 3, NOUGHT = 4;

    public static void main(String[] args) {
        thing();
        thingsFull();
        on();
        onAndWholes();
        told();
        mark();
        worth();
        mean();
        Check.end();
    }

    private static void thing() {
        ForfeitBook x = new ForfeitBook();
        Check.bad(x, "thing(0, 0, 0, 0), no WHOLE yet", () -> x.thing(0, 0, 0, 0));
        Check.quiet(x, "thing(0, 0, 0, NONE)", () -> x.thing(0, 0, 0, NONE), 0);
        Check.quiet(x, "thing(3, 9, 10000, NONE)", () -> x.thing(3, 9, 10000, NONE), 1);
        Check.quiet(x, "thing(1, 5, 1, 1)", () -> x.thing(1, 5, 1, 1), 2);
        Check.quiet(x, "thing(2, 5, 1, 0)", () -> x.thing(2, 5, 1, 0), 3);
        Check.bad(x, "thing(-1, 0, 0, NONE)", () -> x.thing(-1, 0, 0, NONE));
        Check.bad(x, "thing(4, 0, 0, NONE)", () -> x.thing(4, 0, 0, NONE));
        Check.bad(x, "thing(0, -1, 0, NONE)", () -> x.thing(0, -1, 0, NONE));
        Check.bad(x, "thing(0, 10, 0, NONE)", () -> x.thing(0, 10, 0, NONE));
        Check.bad(x, "thing(0, 0, -1, NONE)", () -> x.thing(0, 0, -1, NONE));
        Check.bad(x, "thing(0, 0, NONE, NONE)", () -> x.thing(0, 0, NONE, NONE));
        Check.bad(x, "thing(0, 0, 10001, NONE)", () -> x.thing(0, 0, 10001, NONE));
        Check.bad(x, "thing(0, 0, 0, 4), its own number", () -> x.thing(0, 0, 0, 4));
        Check.bad(x, "thing(0, 0, 0, -1)", () -> x.thing(0, 0, 0, -1));
        Check.bad(x, "thing(0, 0, 0, -8)", () -> x.thing(0, 0, 0, -8));
        Check.bad(x, "thing(0, 0, 0, -10)", () -> x.thing(0, 0, 0, -10));
        Check.bad(x, "thing(MAX, ..)", () -> x.thing(MAX, MAX, MAX, MAX));
        Check.bad(x, "thing(MIN, ..)", () -> x.thing(MIN, MIN, MIN, MIN));
    }

    private static void thingsFull() {
        ForfeitBook x = new ForfeitBook();
        for (int t = 0; t < 20; t++) {
            Check.due("thing " + t, x.thing(t % 4, t % 10, t, t == 0 ? NONE : t - 1), t);
        }
        Check.full(x, "a 21st THING", () -> x.thing(0, 0, 0, NONE));
        Check.full(x, "a 21st THING, a PART of the last", () -> x.thing(0, 0, 0, 19));
        Check.bad(x, "a 21st THING: BAD ahead of FULL", () -> x.thing(4, 0, 0, NONE));
        Check.bad(x, "a 21st THING, a PART of itself", () -> x.thing(0, 0, 0, 20));
        Check.told(x, "told(19, 4), TOP of twenty", () -> x.told(19, 4), 1, 0);
        Check.told(x, "told(0, 5), PRICE of twenty", () -> x.told(0, 5), 1, 190);
        Check.told(x, "told(19, 5)", () -> x.told(19, 5), 1, 19);
        for (int t = 0; t < 19; t++) {
            Check.due("on(" + t + ", " + (t + 1) + ")", x.on(t, t + 1), NONE);
        }
        Check.state(x, "on(19, 0), by way of all others", () -> x.on(19, 0));
        for (int t = 0; t < 19; t++) {
            int which = t;
            Check.state(x, "on(19, " + t + ")", () -> x.on(19, which));
        }
    }

    private static void on() {
        ForfeitBook x = new ForfeitBook();
        for (int t = 0; t < 4; t++) {
            x.thing(t, 0, 0, NONE);
        }
        Check.quiet(x, "on(0, NONE)", () -> x.on(0, NONE), NONE);
        Check.quiet(x, "on(0, 1)", () -> x.on(0, 1), NONE);
        Check.quiet(x, "on(0, 1) again", () -> x.on(0, 1), 1);
        Check.quiet(x, "on(3, 1), a second one ON the same", () -> x.on(3, 1), NONE);
        Check.state(x, "on(1, 0)", () -> x.on(1, 0));
        Check.quiet(x, "on(1, 2)", () -> x.on(1, 2), NONE);
        Check.state(x, "on(2, 0), by way of another", () -> x.on(2, 0));
        Check.state(x, "on(2, 1)", () -> x.on(2, 1));
        Check.state(x, "on(2, 3)", () -> x.on(2, 3));
        Check.quiet(x, "on(0, 2)", () -> x.on(0, 2), 1);
        Check.quiet(x, "on(1, 0), now that 0 lies elsewhere", () -> x.on(1, 0), 2);
        Check.quiet(x, "on(1, NONE)", () -> x.on(1, NONE), 0);
        Check.told(x, "told(1, 6)", () -> x.told(1, 6), 1, NONE);
        Check.bad(x, "on(1, 1)", () -> x.on(1, 1));
        Check.bad(x, "on(0, 0) of one that lies", () -> x.on(0, 0));
        Check.bad(x, "on(-1, 0)", () -> x.on(-1, 0));
        Check.bad(x, "on(4, 0)", () -> x.on(4, 0));
        Check.bad(x, "on(0, 4)", () -> x.on(0, 4));
        Check.bad(x, "on(0, -1)", () -> x.on(0, -1));
        Check.bad(x, "on(NONE, 0)", () -> x.on(NONE, 0));
        Check.bad(x, "on(NONE, NONE)", () -> x.on(NONE, NONE));
        Check.bad(x, "on(MIN, MAX)", () -> x.on(MIN, MAX));
    }

    private static void onAndWholes() {
        ForfeitBook x = new ForfeitBook();
        x.thing(0, 0, 1, NONE);
        x.thing(0, 0, 2, 0);
        Check.quiet(x, "a PART ON its WHOLE", () -> x.on(1, 0), NONE);
        Check.state(x, "the WHOLE ON it", () -> x.on(0, 1));
        Check.quiet(x, "a PART ON nothing", () -> x.on(1, NONE), 0);
        Check.quiet(x, "a WHOLE ON its PART: WHOLES aside", () -> x.on(0, 1), NONE);
        Check.told(x, "PRICE is not by ON", () -> x.told(1, 5), 1, 2);
    }

    private static void told() {
        ForfeitBook x = new ForfeitBook();
        x.thing(2, 7, 500, NONE);
        x.thing(3, 9, 60, 0);
        x.thing(1, 2, 7, 1);
        x.thing(0, 3, 1000, 0);
        x.thing(0, 0, 10000, NONE);
        x.on(2, 4);
        int[][] due = {
            {2, 7, 500, NONE, 0, 1567, NONE},
            {3, 9, 60, 0, 0, 67, NONE},
            {1, 2, 7, 1, 0, 7, 4},
            {0, 3, 1000, 0, 0, 1000, NONE},
            {0, 0, 10000, NONE, 4, 10000, NONE}};
        for (int t = 0; t < 5; t++) {
            for (int what = 0; what <= 6; what++) {
                int which = t, asked = what;
                Check.told(x, "told(" + t + ", " + what + ")", () -> x.told(which, asked), 1, due[t][what]);
            }
        }
        Check.bad(x, "told(5, 0)", () -> x.told(5, 0));
        Check.bad(x, "told(-1, 0)", () -> x.told(-1, 0));
        Check.bad(x, "told(0, 7)", () -> x.told(0, 7));
        Check.bad(x, "told(0, -1)", () -> x.told(0, -1));
        Check.bad(x, "told(NONE, 0)", () -> x.told(NONE, 0));
        Check.bad(x, "told(MAX, MIN)", () -> x.told(MAX, MIN));
    }

    private static void mark() {
        ForfeitBook x = new ForfeitBook();
        for (int kind = 0; kind < 4; kind++) {
            x.thing(kind, 0, 0, NONE);
        }
        for (int d = 0; d < 12; d++) {
            x.death(0, 1000 + d, NONE);
        }
        Check.still(x, "mark(1, 1) before any ACT", () -> x.mark(1, 1), 0);
        for (int d = 0; d < 12; d++) {
            x.act(d, 0, 1, 0, d % 2 == 0);
        }
        x.act(0, 0, 1, 0, false);
        x.act(1, 1, 1, 2, true);
        x.act(2, 2, 1, 2, true);
        x.act(3, 1, 2, 1, false);
        x.act(3, 1, 2, 0, true);
        x.act(4, 1, 2, 0, true);
        x.act(4, 1, 0, 2, true);
        x.act(5, 0, 2, 0, false);
        x.act(6, 2, 3, 0, true);
        x.act(7, 3, 3, 0, false);
        x.act(8, 2, 3, 0, false);
        x.act(8, 3, 3, 0, true);
        x.act(9, 0, 3, 0, true);
        x.act(9, 1, 3, 0, true);
        x.act(9, 1, 0, 3, true);
        Check.still(x, "a BEAST GOES in all DEATHS", () -> x.mark(1, 1), 12);
        Check.still(x, "an ENGINE GOES, too", () -> x.mark(2, 1), 1);
        Check.still(x, "an ENGINE MOVES others", () -> x.mark(2, 2), 2);
        Check.still(x, "a STANDING one is HIT", () -> x.mark(3, 3), 3);
        Check.finding(x, "a THING is no BEAST", UNLIKE, () -> x.mark(0, 1));
        Check.finding(x, "a THING is no ENGINE", UNLIKE, () -> x.mark(0, 2));
        Check.finding(x, "a THING is not STANDING", UNLIKE, () -> x.mark(0, 3));
        Check.finding(x, "a BEAST is no ENGINE", UNLIKE, () -> x.mark(1, 2));
        Check.finding(x, "a BEAST is not STANDING", UNLIKE, () -> x.mark(1, 3));
        Check.finding(x, "an ENGINE is not STANDING", UNLIKE, () -> x.mark(2, 3));
        Check.finding(x, "a STANDING one is no BEAST", UNLIKE, () -> x.mark(3, 1));
        Check.finding(x, "a STANDING one is no ENGINE", UNLIKE, () -> x.mark(3, 2));
        Check.bad(x, "mark(0, 0)", () -> x.mark(0, 0));
        Check.bad(x, "mark(1, 0)", () -> x.mark(1, 0));
        Check.bad(x, "mark(1, 4)", () -> x.mark(1, 4));
        Check.bad(x, "mark(1, -1)", () -> x.mark(1, -1));
        Check.bad(x, "mark(4, 1)", () -> x.mark(4, 1));
        Check.bad(x, "mark(-1, 1)", () -> x.mark(-1, 1));
    }

    private static void worth() {
        ForfeitBook x = new ForfeitBook();
        x.thing(0, 1, 10, NONE);
        x.thing(0, 1, 20, 0);
        x.thing(0, 1, 40, 1);
        x.thing(0, 1, 80, 0);
        Check.quiet(x, "worth(1, 10000)", () -> x.worth(1, 10000), 20);
        Check.quiet(x, "worth(1, 0)", () -> x.worth(1, 0), 10000);
        Check.quiet(x, "worth(1, 5)", () -> x.worth(1, 5), 0);
        Check.told(x, "told(1, 2)", () -> x.told(1, 2), 1, 5);
        Check.told(x, "told(0, 5)", () -> x.told(0, 5), 1, 135);
        Check.told(x, "told(1, 5)", () -> x.told(1, 5), 1, 45);
        Check.told(x, "told(2, 5)", () -> x.told(2, 5), 1, 40);
        Check.told(x, "told(3, 5)", () -> x.told(3, 5), 1, 80);
        Check.bad(x, "worth(1, -1)", () -> x.worth(1, -1));
        Check.bad(x, "worth(1, NONE)", () -> x.worth(1, NONE));
        Check.bad(x, "worth(1, 10001)", () -> x.worth(1, 10001));
        Check.bad(x, "worth(4, 1)", () -> x.worth(4, 1));
        Check.bad(x, "worth(-1, 1)", () -> x.worth(-1, 1));
    }

    private static void mean() {
        ForfeitBook x = new ForfeitBook();
        Check.finding(x, "mean(0) of no THINGS", NOUGHT, () -> x.mean(0));
        x.thing(0, 0, 3, NONE);
        x.thing(1, 0, 4, 0);
        x.thing(2, 9, 10000, NONE);
        x.thing(3, 4, 0, NONE);
        Check.told(x, "mean(0), cut, of WORTHS and not PRICES", () -> x.mean(0), 1, 3);
        Check.told(x, "mean(9)", () -> x.mean(9), 1, 10000);
        Check.told(x, "mean(4)", () -> x.mean(4), 1, 0);
        Check.finding(x, "mean(1)", NOUGHT, () -> x.mean(1));
        Check.bad(x, "mean(-1)", () -> x.mean(-1));
        Check.bad(x, "mean(10)", () -> x.mean(10));
        Check.bad(x, "mean(MAX)", () -> x.mean(MAX));
    }
}
