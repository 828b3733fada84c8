/** Promises 1 to 5: a new object, row, lay, tear, copy. */
public final class RowsTest {
    private static final int MIN = Integer.MIN_VALUE, MAX = Integer.MAX_VALUE;
    private static final int NOTHING = 1, BEYOND = 2, SIZE = 5;

    public static void main(String[] args) {
        newObject();
        row();
        lay();
        tear();
        copy();
        copyRefused();
        Check.end();
    }

    private static void newObject() {
        ForfeitBook x = new ForfeitBook();
        for (int what = 0; what <= 5; what++) {
            Check.due("new, count(" + what + ")", x.count(what), 0);
        }
        Check.due("new, asked()", x.asked(), 0);
        Check.due("new, upper()", x.upper(), 0);
        Check.due("new, lower()", x.lower(), 1);
        Check.due("new, finding()", x.finding(), 0);
        for (int f = 1; f <= 5; f++) {
            Check.due("new, findings(" + f + ")", x.findings(f), 0);
        }
        for (int r = 0; r <= 5; r++) {
            int which = r;
            Check.finding(x, "new, tear(" + r + ")", NOTHING, () -> x.tear(which));
        }
        ForfeitBook other = new ForfeitBook();
        other.row(0, 3);
        Check.due("a second object is its own", x.count(5), 0);
    }

    private static void row() {
        ForfeitBook x = new ForfeitBook();
        Check.quiet(x, "row(0, 0)", () -> x.row(0, 0), 0);
        Check.quiet(x, "row(5, 40)", () -> x.row(5, 40), 40);
        Check.quiet(x, "row(1, 1)", () -> x.row(1, 1), 1);
        Check.due("count(5)", x.count(5), 3);
        for (int i = 0; i < 40; i++) {
            int place = i;
            Check.told(x, "lay(5, " + i + ", 7)", () -> x.lay(5, place, 7), 1, 0);
        }
        Check.due("row(5, 40) again", x.row(5, 40), 40);
        for (int i = 0; i < 40; i++) {
            int place = i;
            Check.told(x, "a row made again is of noughts", () -> x.lay(5, place, 0), 1, 0);
        }
        Check.due("row(5, 2)", x.row(5, 2), 2);
        Check.finding(x, "a row made shorter", BEYOND, () -> x.lay(5, 2, 1));
        Check.due("count(5)", x.count(5), 3);
        Check.bad(x, "row(-1, 1)", () -> x.row(-1, 1));
        Check.bad(x, "row(6, 1)", () -> x.row(6, 1));
        Check.bad(x, "row(MIN, 1)", () -> x.row(MIN, 1));
        Check.bad(x, "row(MAX, 1)", () -> x.row(MAX, 1));
        Check.bad(x, "row(0, 41)", () -> x.row(0, 41));
        Check.bad(x, "row(0, MAX)", () -> x.row(0, MAX));
        Check.bad(x, "row(6, -1): BAD ahead of SIZE", () -> x.row(6, -1));
        Check.finding(x, "row(0, -1)", SIZE, () -> x.row(0, -1));
        Check.finding(x, "row(4, MIN)", SIZE, () -> x.row(4, MIN));
    }

    private static void lay() {
        ForfeitBook x = new ForfeitBook();
        x.row(0, 3);
        x.row(1, 0);
        Check.told(x, "lay(0, 0, MAX)", () -> x.lay(0, 0, MAX), 1, 0);
        Check.told(x, "lay(0, 0, MIN)", () -> x.lay(0, 0, MIN), 1, MAX);
        Check.told(x, "lay(0, 0, 5)", () -> x.lay(0, 0, 5), 1, MIN);
        Check.told(x, "lay(0, 2, 6)", () -> x.lay(0, 2, 6), 1, 0);
        Check.told(x, "lay(0, 0, 0)", () -> x.lay(0, 0, 0), 1, 5);
        Check.bad(x, "lay(-1, 0, 0)", () -> x.lay(-1, 0, 0));
        Check.bad(x, "lay(6, 0, 0)", () -> x.lay(6, 0, 0));
        Check.bad(x, "lay(6, -1, 0)", () -> x.lay(6, -1, 0));
        Check.finding(x, "lay(2, 0, 1)", NOTHING, () -> x.lay(2, 0, 1));
        Check.finding(x, "lay(2, -1, 1): NOTHING ahead of BEYOND", NOTHING, () -> x.lay(2, -1, 1));
        Check.finding(x, "lay(0, 3, 1)", BEYOND, () -> x.lay(0, 3, 1));
        Check.finding(x, "lay(0, -1, 1)", BEYOND, () -> x.lay(0, -1, 1));
        Check.finding(x, "lay(0, MAX, 1)", BEYOND, () -> x.lay(0, MAX, 1));
        Check.finding(x, "lay(0, MIN, 1)", BEYOND, () -> x.lay(0, MIN, 1));
        Check.finding(x, "lay(1, 0, 1)", BEYOND, () -> x.lay(1, 0, 1));
    }

    private static void tear() {
        ForfeitBook x = new ForfeitBook();
        x.row(0, 2);
        x.row(5, 1);
        x.lay(0, 1, 9);
        Check.quiet(x, "tear(0)", () -> x.tear(0), 1);
        Check.due("count(5)", x.count(5), 1);
        Check.finding(x, "tear(0) again", NOTHING, () -> x.tear(0));
        Check.finding(x, "lay(0, 1, 1) in a torn row", NOTHING, () -> x.lay(0, 1, 1));
        Check.told(x, "another row stays", () -> x.lay(5, 0, 1), 1, 0);
        x.row(0, 2);
        Check.told(x, "a torn row made again", () -> x.lay(0, 1, 1), 1, 0);
        Check.quiet(x, "tear(5)", () -> x.tear(5), 1);
        Check.bad(x, "tear(-1)", () -> x.tear(-1));
        Check.bad(x, "tear(6)", () -> x.tear(6));
    }

    private static ForfeitBook numbered() {
        ForfeitBook x = new ForfeitBook();
        x.row(0, 5);
        x.row(1, 40);
        x.row(2, 0);
        for (int i = 0; i < 5; i++) {
            x.lay(0, i, i + 1);
        }
        return x;
    }

    private static void holds(String what, ForfeitBook x, int r, int from, int... values) {
        for (int i = 0; i < values.length; i++) {
            Check.due(what + ", lay", x.lay(r, from + i, values[i]), 1);
            Check.due(what + ", place " + (from + i), x.asked(), values[i]);
        }
    }

    private static void copy() {
        ForfeitBook up = numbered();
        Check.quiet(up, "copy(0, 0, 0, 1, 4)", () -> up.copy(0, 0, 0, 1, 4), 1);
        holds("copy up over itself", up, 0, 0, 1, 1, 2, 3, 4);
        ForfeitBook down = numbered();
        Check.due("copy(0, 1, 0, 0, 4)", down.copy(0, 1, 0, 0, 4), 1);
        holds("copy down over itself", down, 0, 0, 2, 3, 4, 5, 5);
        ForfeitBook x = numbered();
        Check.due("copy(0, 1, 1, 37, 3)", x.copy(0, 1, 1, 37, 3), 1);
        holds("copy to another row's end", x, 1, 35, 0, 0, 2, 3, 4);
        holds("what was copied stays", x, 0, 0, 1, 2, 3, 4, 5);
        Check.due("copy(1, 36, 0, 3, 2)", x.copy(1, 36, 0, 3, 2), 1);
        holds("copy back", x, 0, 0, 1, 2, 3, 0, 2);
        Check.due("copy(0, 0, 0, 0, 5)", x.copy(0, 0, 0, 0, 5), 1);
        holds("copy of itself onto itself", x, 0, 0, 1, 2, 3, 0, 2);
        Check.still(x, "copy(0, 5, 1, 40, 0)", () -> x.copy(0, 5, 1, 40, 0), 1);
        Check.still(x, "copy(2, 0, 2, 0, 0)", () -> x.copy(2, 0, 2, 0, 0), 1);
        Check.still(x, "copy(2, 0, 0, 2, 0)", () -> x.copy(2, 0, 0, 2, 0), 1);
        ForfeitBook whole = new ForfeitBook();
        whole.row(4, 40);
        whole.row(5, 40);
        for (int i = 0; i < 40; i++) {
            whole.lay(4, i, -i);
        }
        Check.due("copy(4, 0, 5, 0, 40)", whole.copy(4, 0, 5, 0, 40), 1);
        for (int i = 0; i < 40; i++) {
            holds("copy of forty", whole, 5, i, -i);
        }
    }

    private static void copyRefused() {
        ForfeitBook x = numbered();
        Check.bad(x, "copy(-1, 0, 0, 0, 0)", () -> x.copy(-1, 0, 0, 0, 0));
        Check.bad(x, "copy(6, 0, 0, 0, 0)", () -> x.copy(6, 0, 0, 0, 0));
        Check.bad(x, "copy(0, 0, -1, 0, 0)", () -> x.copy(0, 0, -1, 0, 0));
        Check.bad(x, "copy(0, 0, 6, 0, 0)", () -> x.copy(0, 0, 6, 0, 0));
        Check.bad(x, "copy(0, 0, 6, 0, -1): BAD ahead of SIZE", () -> x.copy(0, 0, 6, 0, -1));
        Check.finding(x, "copy(0, 0, 1, 0, -1)", SIZE, () -> x.copy(0, 0, 1, 0, -1));
        Check.finding(x, "copy(0, 0, 1, 0, MIN)", SIZE, () -> x.copy(0, 0, 1, 0, MIN));
        Check.finding(x, "copy(3, 0, 1, 0, -1): SIZE ahead of NOTHING", SIZE, () -> x.copy(3, 0, 1, 0, -1));
        Check.finding(x, "copy(0, 9, 1, 0, -1): SIZE ahead of BEYOND", SIZE, () -> x.copy(0, 9, 1, 0, -1));
        Check.finding(x, "copy(3, 0, 1, 0, 0)", NOTHING, () -> x.copy(3, 0, 1, 0, 0));
        Check.finding(x, "copy(1, 0, 3, 0, 0)", NOTHING, () -> x.copy(1, 0, 3, 0, 0));
        Check.finding(x, "copy(0, 9, 3, 0, 1): NOTHING ahead of BEYOND", NOTHING, () -> x.copy(0, 9, 3, 0, 1));
        Check.finding(x, "copy(0, 0, 1, 0, 6)", BEYOND, () -> x.copy(0, 0, 1, 0, 6));
        Check.finding(x, "copy(1, 0, 0, 0, 6)", BEYOND, () -> x.copy(1, 0, 0, 0, 6));
        Check.finding(x, "copy(0, 3, 1, 0, 3)", BEYOND, () -> x.copy(0, 3, 1, 0, 3));
        Check.finding(x, "copy(0, 0, 1, 38, 3)", BEYOND, () -> x.copy(0, 0, 1, 38, 3));
        Check.finding(x, "copy(0, -1, 1, 0, 1)", BEYOND, () -> x.copy(0, -1, 1, 0, 1));
        Check.finding(x, "copy(0, 0, 1, -1, 1)", BEYOND, () -> x.copy(0, 0, 1, -1, 1));
        Check.finding(x, "copy(0, 6, 1, 0, 0)", BEYOND, () -> x.copy(0, 6, 1, 0, 0));
        Check.finding(x, "copy(0, 0, 1, 41, 0)", BEYOND, () -> x.copy(0, 0, 1, 41, 0));
        Check.finding(x, "copy(0, -1, 1, 0, 0)", BEYOND, () -> x.copy(0, -1, 1, 0, 0));
        Check.finding(x, "copy(0, MAX, 1, 0, MAX)", BEYOND, () -> x.copy(0, MAX, 1, 0, MAX));
        Check.finding(x, "copy(0, 1, 1, 1, MAX)", BEYOND, () -> x.copy(0, 1, 1, 1, MAX));
        Check.finding(x, "copy(0, MIN, 1, 0, 1)", BEYOND, () -> x.copy(0, MIN, 1, 0, 1));
        Check.finding(x, "copy(0, 0, 1, MAX, 1)", BEYOND, () -> x.copy(0, 0, 1, MAX, 1));
        holds("refused copies change nothing", x, 0, 0, 1, 2, 3, 4, 5);
    }
}
