/** Promises 12 to 15: death, act, acts, deathTold. */
public final class DeathsTest {
    private static final int NONE = ForfeitBook.NONE;
    private static final int MIN = Integer.MIN_VALUE, MAX = Integer.MAX_VALUE;
    private static final int NOTHING = 1, UNLIKE = 3, SIZE = 5;

    public static void main(String[] args) {
        death();
        act();
        actFull();
        acts();
        actsRefused();
        deathTold();
        Check.end();
    }

    private static void death() {
        ForfeitBook x = new ForfeitBook();
        Check.quiet(x, "death(0, 1000, 0)", () -> x.death(0, 1000, 0), 0);
        Check.quiet(x, "death(7, 1900, 100000)", () -> x.death(7, 1900, 100000), 1);
        Check.quiet(x, "death(3, 1500, NONE)", () -> x.death(3, 1500, NONE), 2);
        Check.bad(x, "death(-1, 1500, 0)", () -> x.death(-1, 1500, 0));
        Check.bad(x, "death(8, 1500, 0)", () -> x.death(8, 1500, 0));
        Check.bad(x, "death(0, 999, 0)", () -> x.death(0, 999, 0));
        Check.bad(x, "death(0, 1901, 0)", () -> x.death(0, 1901, 0));
        Check.bad(x, "death(0, 1500, -1)", () -> x.death(0, 1500, -1));
        Check.bad(x, "death(0, 1500, -10)", () -> x.death(0, 1500, -10));
        Check.bad(x, "death(0, 1500, 100001)", () -> x.death(0, 1500, 100001));
        Check.bad(x, "death(NONE, NONE, NONE)", () -> x.death(NONE, NONE, NONE));
        for (int d = 3; d < 12; d++) {
            Check.due("death " + d, x.death(0, 1500, NONE), d);
        }
        Check.full(x, "a 13th DEATH", () -> x.death(0, 1500, 0));
        Check.bad(x, "a 13th DEATH: BAD ahead of FULL", () -> x.death(0, 1901, 0));
    }

    private static ForfeitBook withThings() {
        ForfeitBook x = new ForfeitBook();
        for (int kind = 0; kind < 4; kind++) {
            x.thing(kind, 0, 0, NONE);
        }
        x.death(0, 1500, NONE);
        x.death(0, 1500, NONE);
        return x;
    }

    private static void act() {
        ForfeitBook x = withThings();
        Check.quiet(x, "act(0, 0, 0, ..), a THING may GO", () -> x.act(0, 0, 0, NONE, true), 1);
        Check.quiet(x, "act(0, 1, 0, 3, ..)", () -> x.act(0, 1, 0, 3, false), 2);
        Check.quiet(x, "act(0, 2, 3, 99, ..)", () -> x.act(0, 2, 3, 99, true), 3);
        Check.quiet(x, "act(0, 3, 3, 3, ..)", () -> x.act(0, 3, 3, 3, false), 4);
        Check.quiet(x, "act(0, 0, 1, MIN, ..)", () -> x.act(0, 0, 1, MIN, true), 5);
        Check.quiet(x, "act(1, ..) of another DEATH", () -> x.act(1, 0, 1, 0, true), 1);
        Check.bad(x, "act(2, 0, 0, 0, true)", () -> x.act(2, 0, 0, 0, true));
        Check.bad(x, "act(-1, 0, 0, 0, true)", () -> x.act(-1, 0, 0, 0, true));
        Check.bad(x, "act(0, -1, 0, 0, true)", () -> x.act(0, -1, 0, 0, true));
        Check.bad(x, "act(0, 4, 0, 0, true)", () -> x.act(0, 4, 0, 0, true));
        for (int sort = 0; sort < 4; sort++) {
            int which = sort;
            Check.bad(x, "act(0, " + sort + ", 4, 1, true)", () -> x.act(0, which, 4, 1, true));
            Check.bad(x, "act(0, " + sort + ", -1, 1, true)", () -> x.act(0, which, -1, 1, true));
            Check.bad(x, "act(0, " + sort + ", NONE, 1, true)", () -> x.act(0, which, NONE, 1, true));
        }
        Check.bad(x, "act(0, 1, 0, 4, true)", () -> x.act(0, 1, 0, 4, true));
        Check.bad(x, "act(0, 1, 0, -1, true)", () -> x.act(0, 1, 0, -1, true));
        Check.bad(x, "act(0, 1, 0, NONE, true)", () -> x.act(0, 1, 0, NONE, true));
        Check.bad(x, "act(0, 1, 2, 2, true)", () -> x.act(0, 1, 2, 2, true));
        Check.bad(x, "act(0, 1, MAX, MIN, false)", () -> x.act(0, 1, MAX, MIN, false));
    }

    private static void actFull() {
        ForfeitBook x = withThings();
        for (int k = 1; k <= 5; k++) {
            Check.due("doubtful act " + k, x.act(0, 2, 1, 0, false), k);
        }
        Check.full(x, "a sixth doubtful ACT", () -> x.act(0, 2, 1, 0, false));
        Check.bad(x, "a sixth doubtful ACT: BAD ahead of FULL", () -> x.act(0, 2, 4, 0, false));
        for (int k = 6; k <= 10; k++) {
            Check.due("sure act " + k, x.act(0, 2, 1, 0, true), k);
        }
        Check.full(x, "an eleventh ACT", () -> x.act(0, 2, 1, 0, true));
        Check.full(x, "an eleventh ACT, doubtful", () -> x.act(0, 2, 1, 0, false));
        Check.bad(x, "an eleventh ACT: BAD ahead of FULL", () -> x.act(0, 1, 1, 1, true));
        for (int k = 1; k <= 10; k++) {
            Check.due("ten sure acts", x.act(1, 2, 1, 0, true), k);
        }
        Check.full(x, "an eleventh ACT, doubtful, of sure ones", () -> x.act(1, 2, 1, 0, false));
        Check.told(x, "deathTold(0, 3)", () -> x.deathTold(0, 3), 1, 10);
        Check.told(x, "deathTold(0, 4)", () -> x.deathTold(0, 4), 1, 5);
        Check.told(x, "deathTold(0, 5)", () -> x.deathTold(0, 5), 1, 32);
    }

    private static void fill(ForfeitBook x, int r, int... values) {
        x.row(r, values.length);
        for (int i = 0; i < values.length; i++) {
            x.lay(r, i, values[i]);
        }
    }

    private static void acts() {
        ForfeitBook x = withThings();
        x.act(0, 2, 3, 0, false);
        x.act(1, 2, 3, 0, false);
        fill(x, 0, 0, 1, 77, 1, 1, 1, 2, 0, 2, 2, MIN, 1, 3, 3, 3, 0);
        Check.quiet(x, "acts(0, 0)", () -> x.acts(0, 0), 4);
        ForfeitBook same = withThings();
        same.act(0, 0, 1, 0, true);
        same.act(0, 1, 1, 2, false);
        same.act(0, 2, 2, 0, true);
        same.act(0, 3, 3, 0, false);
        same.act(1, 2, 3, 0, false);
        fill(same, 0, 0, 1, 77, 1, 1, 1, 2, 0, 2, 2, MIN, 1, 3, 3, 3, 0);
        Check.due("acts by a ROW are as those by act()", x.digest(), same.digest());
        Check.told(x, "deathTold(0, 4)", () -> x.deathTold(0, 4), 1, 2);
        Check.told(x, "another DEATH keeps its own", () -> x.deathTold(1, 3), 1, 1);
        x.row(5, 40);
        for (int i = 0; i < 10; i++) {
            x.lay(5, 4 * i, 2);
            x.lay(5, 4 * i + 1, 3);
            x.lay(5, 4 * i + 3, i % 2);
        }
        Check.quiet(x, "acts(0, 5), ten with five doubtful", () -> x.acts(0, 5), 10);
        Check.told(x, "deathTold(0, 5)", () -> x.deathTold(0, 5), 1, 32);
        Check.full(x, "act() after ten", () -> x.act(0, 0, 0, 0, true));
        x.row(1, 0);
        Check.quiet(x, "acts(0, 1), none", () -> x.acts(0, 1), 0);
        Check.told(x, "deathTold(0, 3)", () -> x.deathTold(0, 3), 1, 0);
        Check.told(x, "deathTold(0, 5)", () -> x.deathTold(0, 5), 1, 1);
        Check.due("count(2)", x.count(2), 1);
        x.lay(5, 0, 1);
        x.lay(5, 1, 3);
        x.lay(5, 2, 0);
        Check.due("act() after none", x.act(0, 2, 3, 0, false), 1);
    }

    private static void actsRefused() {
        ForfeitBook x = withThings();
        x.act(0, 2, 3, 0, false);
        x.row(0, 4);
        x.lay(0, 3, 1);
        Check.bad(x, "acts(-1, 0)", () -> x.acts(-1, 0));
        Check.bad(x, "acts(2, 0)", () -> x.acts(2, 0));
        Check.bad(x, "acts(0, -1)", () -> x.acts(0, -1));
        Check.bad(x, "acts(0, 6)", () -> x.acts(0, 6));
        Check.bad(x, "acts(2, 5): BAD ahead of NOTHING", () -> x.acts(2, 5));
        Check.finding(x, "acts(0, 5)", NOTHING, () -> x.acts(0, 5));
        for (int n = 1; n < 40; n++) {
            if (n % 4 == 0) continue;
            x.row(1, n);
            x.lay(1, 0, 9);
            Check.finding(x, "acts() by " + n + " places: SIZE ahead of UNLIKE", SIZE, () -> x.acts(0, 1));
        }
        int[][] unlike = {
            {-1, 0, 0, 1}, {4, 0, 0, 1}, {0, 4, 0, 1}, {0, -1, 0, 1}, {2, NONE, 0, 1}, {1, 0, 0, 1}, {1, 0, 4, 1},
            {1, 0, NONE, 1}, {1, 0, -1, 0}, {0, 0, 0, 2}, {0, 0, 0, -1}, {0, 0, 0, MAX}, {MIN, MIN, MIN, MIN}};
        for (int[] one : unlike) {
            fill(x, 2, one);
            Check.finding(x, "acts() with sort " + one[0] + ", a " + one[1], UNLIKE, () -> x.acts(0, 2));
            fill(x, 2, 0, 1, 0, 1, one[0], one[1], one[2], one[3]);
            Check.finding(x, "acts() with the second one of sort " + one[0], UNLIKE, () -> x.acts(0, 2));
        }
        x.row(3, 24);
        for (int i = 0; i < 6; i++) {
            x.lay(3, 4 * i, 2);
        }
        Check.finding(x, "acts() with six doubtful ones", UNLIKE, () -> x.acts(0, 3));
        x.lay(3, 3, 1);
        Check.quiet(x, "acts() with five doubtful ones of six", () -> x.acts(0, 3), 6);
    }

    private static void deathTold() {
        ForfeitBook x = withThings();
        x.death(7, 1900, 100000);
        x.act(2, 2, 3, 0, false);
        x.act(2, 2, 3, 0, true);
        x.act(2, 2, 3, 0, false);
        int[][] due = {{0, 1500, NONE, 0, 0, 1}, {0, 1500, NONE, 0, 0, 1}, {7, 1900, 100000, 3, 2, 4}};
        for (int d = 0; d < 3; d++) {
            for (int what = 0; what <= 5; what++) {
                int which = d, asked = what;
                Check.told(x, "deathTold(" + d + ", " + what + ")", () -> x.deathTold(which, asked), 1, due[d][what]);
            }
        }
        Check.bad(x, "deathTold(3, 0)", () -> x.deathTold(3, 0));
        Check.bad(x, "deathTold(-1, 0)", () -> x.deathTold(-1, 0));
        Check.bad(x, "deathTold(0, 6)", () -> x.deathTold(0, 6));
        Check.bad(x, "deathTold(0, -1)", () -> x.deathTold(0, -1));
    }
}
