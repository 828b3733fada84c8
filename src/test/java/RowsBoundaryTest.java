import java.io.IOException;
import java.util.function.Supplier;

/** The boundaries that promises 1 to 11 name: rows and things. */
public final class RowsBoundaryTest extends Boundary {
    public static void main(String[] args) throws IOException {
        open(args);
        newObject();
        row();
        rowTooLong();
        rowTooShort();
        lay();
        layRefused();
        tear();
        tearRefused();
        copy();
        copyRefused();
        copyBelowNone();
        copyOfNothing();
        copyBeyond();
        thing();
        thingOfNoWhole();
        thingFull();
        on();
        onTheSame();
        onByWayOfOthers();
        told();
        toldRefused();
        markOfNone();
        markOfAll();
        markRefused();
        worth();
        worthRefused();
        mean();
        meanRefused();
        end(promises(1, 11));
    }

    private static void newObject() {
        says("Promise 1", "No ROWS, THINGS, DEATHS, TEXTS, GRANTS.");
        ForfeitBook x = fullBook();
        ForfeitBook y = new ForfeitBook();
        for (int what = 0; what <= 5; what++) {
            answers(y, 0, "count", what);
        }
        for (int r = 0; r <= 5; r++) {
            finds(y, NOTHING, "tear", r);
        }
        bad(y, "told", 0, 0);
        bad(y, "deathTold", 0, 0);
        keeps(y, NONE, "inForce", 1900);
        tells(y, 0, 0, "takes", 0, 1000, 1900);
        answers(x, 20, "count", 0);
    }

    private static void row() {
        says("Promise 2", "A ROW is there with n ints 0: n.");
        ForfeitBook x = new ForfeitBook();
        for (int r = 0; r <= 5; r++) {
            quiet(x, 40, "row", r, 40);
            tells(x, 1, 0, "lay", r, 0, -1);
            tells(x, 1, 0, "lay", r, 39, 1);
        }
        for (int r = 0; r <= 5; r++) {
            quiet(x, 0, "row", r, 0);
            finds(x, BEYOND, "lay", r, 0, 1);
            quiet(x, 1, "row", r, 1);
            holds(x, r, 0, 0);
            finds(x, BEYOND, "lay", r, 1, 1);
            quiet(x, 40, "row", r, 40);
            holds(x, r, 0, 0);
            holds(x, r, 39, 0);
        }
        answers(x, 6, "count", 5);
    }

    private static void rowTooLong() {
        says("Promise 2", "BAD: also n above 40;");
        ForfeitBook x = new ForfeitBook();
        for (int n : new int[] {41, 64, 256, 65536, MAX - 1, MAX}) {
            bad(x, "row", 0, n);
            bad(x, "row", 5, n);
        }
        fill(x, 0, 3, 4, 5);
        bad(x, "row", 0, 41);
        holds(x, 0, 0, 3, 4, 5);
        within(ForfeitBook::new, 0, 0, 5, "row", 0, 40);
    }

    private static void rowTooShort() {
        says("Promise 2", " SIZE: below 0.");
        ForfeitBook x = new ForfeitBook();
        for (int n : new int[] {-1, -9, -40, -41, -65536, MIN + 40, MIN + 1, MIN}) {
            finds(x, SIZE, "row", 0, n);
            finds(x, SIZE, "row", 5, n);
            bad(x, "row", 6, n);
            bad(x, "row", -1, n);
        }
        fill(x, 0, 3, 4, 5);
        finds(x, SIZE, "row", 0, -1);
        holds(x, 0, 0, 3, 4, 5);
    }

    private static void lay() {
        says("Promise 3", "Place i of a ROW is v: what it was, told by asked(): 1.");
        ForfeitBook x = new ForfeitBook();
        x.row(0, 40);
        x.row(5, 1);
        int was = 0;
        for (int v : new int[] {MAX, MIN, -1, 0, NONE, BAD, 1}) {
            tells(x, 1, was, "lay", 0, 39, v);
            tells(x, 1, was, "lay", 0, 0, v);
            tells(x, 1, was, "lay", 5, 0, v);
            was = v;
        }
        holds(x, 0, 1, 0);
        holds(x, 0, 38, 0);
    }

    private static void layRefused() {
        says("Promise 3", "BAD; NOTHING; BEYOND.");
        ForfeitBook x = new ForfeitBook();
        for (int r = 0; r <= 5; r++) {
            x.row(r, 40);
            x.lay(r, 0, 7);
            x.lay(r, 39, 8);
        }
        for (int r = 0; r <= 5; r++) {
            for (int i : new int[] {-1, -40, 40, 41, 79, 80, 256, MIN, MIN + 40, MAX, MAX - 40}) {
                finds(x, BEYOND, "lay", r, i, 1);
            }
        }
        x.tear(3);
        finds(x, NOTHING, "lay", 3, 0, 1);
        finds(x, NOTHING, "lay", 3, -1, 1);
        finds(x, NOTHING, "lay", 3, 40, 1);
        x.row(3, 0);
        finds(x, BEYOND, "lay", 3, 0, 1);
        x.row(3, 39);
        finds(x, BEYOND, "lay", 3, 39, 1);
        within(() -> x, 0, 0, 5, "lay", 0, 0, 1);
        bad(x, "lay", 6, -1, 1);
        bad(x, "lay", -1, 40, 1);
    }

    private static void tear() {
        says("Promise 4", "A ROW is missing: 1.");
        ForfeitBook x = new ForfeitBook();
        x.row(0, 0);
        x.row(5, 40);
        x.lay(5, 39, 7);
        quiet(x, 1, "tear", 0);
        quiet(x, 1, "tear", 5);
        answers(x, 0, "count", 5);
        finds(x, NOTHING, "lay", 5, 39, 1);
        x.row(5, 40);
        holds(x, 5, 39, 0);
    }

    private static void tearRefused() {
        says("Promise 4", "BAD; NOTHING.");
        ForfeitBook x = new ForfeitBook();
        for (int r = 0; r <= 5; r++) {
            finds(x, NOTHING, "tear", r);
            x.row(r, r);
            answers(x, 1, "tear", r);
            finds(x, NOTHING, "tear", r);
        }
        within(() -> {
            x.row(0, 0);
            x.row(5, 40);
            return x;
        }, 0, 0, 5, "tear", 0);
    }

    /** ROW 0 of 1 .. 40, ROW 5 of forty noughts, ROW 1 of 1, 2, 3, an empty ROW 2; 3 and 4 are missing. */
    private static ForfeitBook numbered() {
        ForfeitBook x = new ForfeitBook();
        x.row(0, 40);
        for (int i = 0; i < 40; i++) {
            x.lay(0, i, i + 1);
        }
        x.row(5, 40);
        fill(x, 1, 1, 2, 3);
        x.row(2, 0);
        return x;
    }

    private static void copy() {
        says("Promise 5", "n places of a ROW, from one on, come to those of another one (perhaps itself) from one on,"
            + " as if taken ahead: 1.");
        ForfeitBook x = numbered();
        quiet(x, 1, "copy", 0, 0, 5, 0, 40);
        for (int i = 0; i < 40; i++) {
            holds(x, 5, i, i + 1);
        }
        quiet(x, 1, "copy", 0, 39, 5, 0, 1);
        holds(x, 5, 0, 40, 2);
        quiet(x, 1, "copy", 0, 0, 5, 39, 1);
        holds(x, 5, 38, 39, 1);
        quiet(x, 1, "copy", 0, 0, 0, 1, 39);
        holds(x, 0, 0, 1, 1, 2, 3);
        holds(x, 0, 38, 38, 39);
        ForfeitBook down = numbered();
        quiet(down, 1, "copy", 0, 1, 0, 0, 39);
        holds(down, 0, 0, 2, 3, 4);
        holds(down, 0, 38, 40, 40);
        keeps(down, 1, "copy", 0, 0, 0, 0, 40);
        keeps(down, 1, "copy", 0, 0, 5, 0, 0);
        keeps(down, 1, "copy", 0, 40, 5, 40, 0);
        keeps(down, 1, "copy", 2, 0, 2, 0, 0);
        keeps(down, 1, "copy", 2, 0, 1, 3, 0);
    }

    private static void copyRefused() {
        says("Promise 5", "BAD;");
        ForfeitBook x = numbered();
        for (int r : new int[] {0, 5}) {
            within(() -> {
                x.row(0, 1);
                x.row(5, 1);
                return x;
            }, 0, 0, 5, "copy", r, 0, 0, 0, 1);
            within(() -> x, 2, 0, 5, "copy", 0, 0, r, 0, 1);
        }
        bad(x, "copy", 6, 0, 0, 0, -1);
        bad(x, "copy", 0, 0, 6, 0, -1);
        bad(x, "copy", 6, 0, 3, 99, 99);
        bad(x, "copy", 3, 99, 6, 0, 99);
    }

    private static void copyBelowNone() {
        says("Promise 5", " SIZE: n below 0;");
        ForfeitBook x = numbered();
        for (int n : new int[] {-1, -9, -40, MIN, MIN + 1}) {
            finds(x, SIZE, "copy", 0, 0, 5, 0, n);
            finds(x, SIZE, "copy", 0, 40, 5, 40, n);
            finds(x, SIZE, "copy", 3, 0, 4, 0, n);
            finds(x, SIZE, "copy", 0, -1, 5, 41, n);
        }
    }

    private static void copyOfNothing() {
        says("Promise 5", " NOTHING: either;");
        ForfeitBook x = numbered();
        for (int n : new int[] {0, 1, 40, 41, MAX}) {
            finds(x, NOTHING, "copy", 3, 0, 0, 0, n);
            finds(x, NOTHING, "copy", 0, 0, 3, 0, n);
            finds(x, NOTHING, "copy", 3, 0, 3, 0, n);
            finds(x, NOTHING, "copy", 3, 0, 4, 0, n);
            finds(x, NOTHING, "copy", 0, -1, 3, MAX, n);
        }
    }

    private static void copyBeyond() {
        says("Promise 5", " BEYOND: not so many there.");
        ForfeitBook x = numbered();
        int[][] beyond = {{0, 0, 41}, {1, 0, 40}, {40, 0, 1}, {39, 0, 2}, {-1, 0, 1}, {-1, 0, 0}, {-1, 0, 41},
            {41, 0, 0}, {MIN, 0, 1}, {MIN, 0, MAX}, {MAX, 0, 1}, {MAX, 0, MAX}, {MAX, 0, 0}, {1, 0, MAX}, {-40, 0, 40}};
        for (int[] one : beyond) {
            finds(x, BEYOND, "copy", 0, one[0], 5, one[1], one[2]);
            finds(x, BEYOND, "copy", 5, one[1], 0, one[0], one[2]);
        }
        finds(x, BEYOND, "copy", 1, 0, 0, 0, 4);
        finds(x, BEYOND, "copy", 0, 0, 1, 0, 4);
        finds(x, BEYOND, "copy", 1, 1, 0, 0, 3);
        finds(x, BEYOND, "copy", 2, 0, 0, 0, 1);
        finds(x, BEYOND, "copy", 0, 0, 2, 0, 1);
        finds(x, BEYOND, "copy", 1, 0, 1, 1, 3);
    }

    private static void thing() {
        says("Promise 6", "A THING: its number.");
        ForfeitBook x = new ForfeitBook();
        for (int t = 0; t < 20; t++) {
            quiet(x, t, "thing", t % 4, t % 10, 10000, t == 0 ? NONE : t - 1);
        }
    }

    private static void thingOfNoWhole() {
        says("Promise 6", "BAD: also a WHOLE (NONE: none) that there is not");
        withinOrNone(() -> things(THING, 1), 3, 0, 0, "thing", 0, 0, 0, 0);
        withinOrNone(() -> things(THING, 19), 3, 0, 18, "thing", 0, 0, 0, 0);
        answers(new ForfeitBook(), 0, "thing", 0, 0, 0, NONE);
        bad(new ForfeitBook(), "thing", 0, 0, 0, 0);
        bad(new ForfeitBook(), "thing", 0, 0, 0, -8);
        bad(new ForfeitBook(), "thing", 0, 0, 0, -10);
        within(ForfeitBook::new, 0, 0, 3, "thing", 0, 0, 0, NONE);
        within(ForfeitBook::new, 1, 0, 9, "thing", 0, 0, 0, NONE);
        within(ForfeitBook::new, 2, 0, 10000, "thing", 0, 0, 0, NONE);
    }

    private static void thingFull() {
        says("Promise 6", "; FULL.");
        ForfeitBook x = things(THING, 19);
        answers(x, 19, "thing", THING, 0, 0, 18);
        full(x, "thing", THING, 0, 0, NONE);
        full(x, "thing", STANDING, 9, 10000, 19);
        bad(x, "thing", THING, 0, 0, 20);
        bad(x, "thing", 4, 0, 0, NONE);
    }

    private static void on() {
        says("Promise 7", "A THING lies ON another one (NONE: on none): on which it lay (NONE).");
        ForfeitBook x = things(THING, 20);
        quiet(x, NONE, "on", 0, NONE);
        quiet(x, NONE, "on", 0, 19);
        quiet(x, 19, "on", 0, 19);
        quiet(x, 19, "on", 0, 1);
        quiet(x, 1, "on", 0, NONE);
        quiet(x, NONE, "on", 19, 0);
        quiet(x, 0, "on", 19, 18);
        tells(x, 1, 18, "told", 19, 6);
        tells(x, 1, NONE, "told", 0, 6);
    }

    private static void onTheSame() {
        says("Promise 7", "BAD: also the same one");
        ForfeitBook x = things(THING, 20);
        for (int t = 0; t < 20; t++) {
            bad(x, "on", t, t);
        }
        x.on(0, 19);
        bad(x, "on", 0, 0);
        bad(x, "on", 19, 19);
        bad(x, "on", NONE, NONE);
        bad(x, "on", 20, 20);
        Supplier<ForfeitBook> fresh = () -> things(THING, 3);
        within(fresh, 0, 0, 1, "on", 0, 2);
        bad(fresh.get(), "on", 2, 2);
        withinOrNone(fresh, 1, 1, 2, "on", 0, 1);
        bad(new ForfeitBook(), "on", 0, NONE);
    }

    private static void onByWayOfOthers() {
        says("Promise 7", "; STATE: it would lie ON itself by way of others.");
        ForfeitBook x = things(THING, 20);
        x.on(0, 1);
        state(x, "on", 1, 0);
        for (int t = 1; t < 19; t++) {
            x.on(t, t + 1);
            state(x, "on", t + 1, 0);
            state(x, "on", t + 1, t);
        }
        quiet(x, 10, "on", 9, NONE);
        quiet(x, NONE, "on", 19, 0);
        state(x, "on", 9, 10);
        state(x, "on", 9, 0);
        quiet(x, 0, "on", 19, NONE);
        quiet(x, NONE, "on", 9, 10);
    }

    private static void told() {
        says("Promise 8", "Of a THING: 0 its KIND, 1 SORT, 2 WORTH, 3 WHOLE (NONE), 4 TOP, 5 PRICE, 6 ON which it lies"
            + " (NONE), told by asked(): 1.");
        ForfeitBook x = new ForfeitBook();
        x.thing(THING, 0, 0, NONE);
        for (int t = 1; t < 19; t++) {
            x.thing(THING, 0, 10000, t - 1);
        }
        x.thing(STANDING, 9, 10000, 18);
        x.on(19, 0);
        int[] first = {THING, 0, 0, NONE, 0, 190000, NONE};
        int[] last = {STANDING, 9, 10000, 18, 0, 10000, 0};
        for (int what = 0; what <= 6; what++) {
            tells(x, 1, first[what], "told", 0, what);
            tells(x, 1, last[what], "told", 19, what);
        }
    }

    private static void toldRefused() {
        says("Promise 8", "BAD.");
        within(() -> things(THING, 1), 0, 0, 0, "told", 0, 0);
        within(() -> things(THING, 20), 0, 0, 19, "told", 0, 0);
        within(() -> things(THING, 1), 1, 0, 6, "told", 0, 0);
        bad(new ForfeitBook(), "told", 0, 0);
    }

    private static ForfeitBook ofEachKind() {
        ForfeitBook x = new ForfeitBook();
        for (int kind = THING; kind <= STANDING; kind++) {
            x.thing(kind, 0, 0, NONE);
        }
        return x;
    }

    private static void markOfNone() {
        says("Promise 9", "What a THING that IS of a KIND tells: a BEAST (ENGINE, too)");
        ForfeitBook x = ofEachKind();
        for (int round = 0; round < 2; round++) {
            keeps(x, 0, "mark", BEAST, BEAST);
            keeps(x, 0, "mark", ENGINE, BEAST);
            keeps(x, 0, "mark", ENGINE, ENGINE);
            keeps(x, 0, "mark", STANDING, STANDING);
            die(x, GOES, 0, 0, SURE, MOVES, BEAST, ENGINE, SURE, GOES, STANDING, 0, SURE, MOVES, 0, STANDING, SURE,
                STRIKES, BEAST, 0, SURE, FELL, ENGINE, 0, SURE);
        }
    }

    private static void markOfAll() {
        says("Promise 9", " in how many DEATHS it GOES (surely or not), an ENGINE in how many DEATHS it MOVES another"
            + " one, a STANDING one in how many DEATHS it STRIKES, or one FELL from it.");
        ForfeitBook x = ofEachKind();
        for (int d = 0; d < 12; d++) {
            int doubt = d % 2;
            die(x, GOES, BEAST, 0, doubt, GOES, BEAST, 0, SURE, GOES, ENGINE, 0, doubt,
                MOVES, ENGINE, 0, doubt, MOVES, ENGINE, 1, SURE, STRIKES, STANDING, 0, doubt, FELL, STANDING, 0, SURE);
            keeps(x, d + 1, "mark", BEAST, BEAST);
            keeps(x, d + 1, "mark", ENGINE, BEAST);
            keeps(x, d + 1, "mark", ENGINE, ENGINE);
            keeps(x, d + 1, "mark", STANDING, STANDING);
        }
        x.row(0, 0);
        x.acts(0, 0);
        fill(x, 0, FELL, STANDING, 0, DOUBTFUL, MOVES, ENGINE, BEAST, DOUBTFUL, GOES, ENGINE, 0, DOUBTFUL);
        keeps(x, 11, "mark", BEAST, BEAST);
        x.acts(11, 0);
        keeps(x, 10, "mark", BEAST, BEAST);
        keeps(x, 11, "mark", ENGINE, BEAST);
        keeps(x, 11, "mark", ENGINE, ENGINE);
        keeps(x, 11, "mark", STANDING, STANDING);
    }

    private static void markRefused() {
        says("Promise 9", "BAD: also KIND 0; UNLIKE.");
        ForfeitBook x = ofEachKind();
        for (int t = 0; t < 4; t++) {
            for (int kind : new int[] {THING, 4, -1, NONE, 33, 257, MIN, MIN + 1, MAX}) {
                bad(x, "mark", t, kind);
            }
            finds(x, UNLIKE, "mark", t == STANDING ? BEAST : t, STANDING);
            finds(x, UNLIKE, "mark", t == ENGINE ? STANDING : t, ENGINE);
        }
        finds(x, UNLIKE, "mark", THING, BEAST);
        finds(x, UNLIKE, "mark", STANDING, BEAST);
        within(() -> things(BEAST, 20), 0, 0, 19, "mark", 0, BEAST);
        bad(new ForfeitBook(), "mark", 0, BEAST);
    }

    private static void worth() {
        says("Promise 10", "WORTH of a THING becomes w: what it was.");
        ForfeitBook x = new ForfeitBook();
        for (int t = 0; t < 20; t++) {
            x.thing(THING, 0, 10000, t == 0 ? NONE : t - 1);
        }
        quiet(x, 10000, "worth", 19, 0);
        quiet(x, 0, "worth", 19, 0);
        tells(x, 1, 190000, "told", 0, 5);
        tells(x, 1, 0, "told", 19, 5);
        quiet(x, 10000, "worth", 0, 0);
        tells(x, 1, 180000, "told", 0, 5);
        tells(x, 1, 180000, "told", 1, 5);
        quiet(x, 0, "worth", 19, 10000);
        tells(x, 1, 190000, "told", 0, 5);
        tells(x, 1, 10000, "told", 19, 2);
    }

    private static void worthRefused() {
        says("Promise 10", "BAD.");
        within(() -> things(THING, 20), 0, 0, 19, "worth", 0, 0);
        within(() -> things(THING, 1), 1, 0, 10000, "worth", 0, 0);
        bad(new ForfeitBook(), "worth", 0, 0);
    }

    private static void mean() {
        says("Promise 11", "The mean WORTH of THINGS of a SORT, cut, told by asked(): 1.");
        ForfeitBook x = things(THING, 20);
        for (int t = 0; t < 20; t++) {
            x.worth(t, 10000);
        }
        tells(x, 1, 10000, "mean", 0);
        x.worth(0, 9999);
        tells(x, 1, 9999, "mean", 0);
        for (int t = 0; t < 20; t++) {
            x.worth(t, t == 0 ? 19 : 0);
        }
        tells(x, 1, 0, "mean", 0);
        x.worth(1, 1);
        tells(x, 1, 1, "mean", 0);
        ForfeitBook one = new ForfeitBook();
        one.thing(THING, 9, 0, NONE);
        one.thing(THING, 0, 10000, 0);
        tells(one, 1, 0, "mean", 9);
        tells(one, 1, 10000, "mean", 0);
    }

    private static void meanRefused() {
        says("Promise 11", "BAD; NOUGHT.");
        ForfeitBook x = new ForfeitBook();
        for (int sort = 0; sort <= 9; sort++) {
            finds(x, NOUGHT, "mean", sort);
        }
        for (int sort = 0; sort <= 9; sort++) {
            x.thing(THING, sort, 0, NONE);
            tells(x, 1, 0, "mean", sort);
        }
        within(() -> x, 0, 0, 9, "mean", 0);
    }
}
