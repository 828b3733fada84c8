/** Promises 16 and 17: moving, blame. */
public final class ReadingsTest {
    private static final int NONE = ForfeitBook.NONE;
    private static final int GOES = 0, MOVES = 1, STRIKES = 2, FELL = 3;
    private static final int OX = 0, CART = 1, WHEEL = 2, POST = 3, KNOB = 4, SACK = 5, BARREL = 6, JUG = 7, STONE = 8,
        MILL = 9, HOUSE = 10;

    public static void main(String[] args) {
        goes();
        takesAlong();
        moves();
        blame();
        blameOfWhatMoves();
        doubtful();
        allThings();
        refused();
        Check.end();
    }

    /** A book with one DEATH and these ACTS, three ints each, all sure. */
    private static ForfeitBook dead(int... acts) {
        ForfeitBook x = Scene.things();
        x.death(0, 1500, NONE);
        for (int i = 0; i < acts.length; i += 3) {
            x.act(0, acts[i], acts[i + 1], acts[i + 2], true);
        }
        return x;
    }

    private static void moving(String what, ForfeitBook x, int reading, int... due) {
        Check.told(x, "moving: " + what, () -> x.moving(0, reading), due.length, Scene.set(due));
    }

    private static void toBlame(String what, ForfeitBook x, int reading, int... due) {
        Check.told(x, "blame: " + what, () -> x.blame(0, reading), due.length, Scene.set(due));
    }

    private static void goes() {
        moving("no ACTS", dead(), 0);
        moving("a BEAST", dead(GOES, OX, 0), 0, OX);
        moving("an ENGINE", dead(GOES, MILL, 0), 0, MILL);
        moving("a THING does not go of itself", dead(GOES, STONE, 0), 0);
        moving("a THING with PARTS does not", dead(GOES, CART, 0), 0);
        moving("a STANDING one does not", dead(GOES, HOUSE, 0), 0);
        ForfeitBook x = new ForfeitBook();
        x.thing(0, 0, 0, NONE);
        x.death(0, 1500, NONE);
        x.act(0, GOES, 0, 0, true);
        moving("a THING of number 0", x, 0);
        moving("what strikes does not move by that", dead(STRIKES, STONE, 0, FELL, OX, 0), 0);
    }

    private static void takesAlong() {
        moving("PARTS and what lies ON it, but what is STANDING, and no more by way of these",
            dead(GOES, OX, 0, MOVES, OX, CART), 0, OX, CART, WHEEL, SACK);
        moving("a PART does not take its WHOLE along", dead(GOES, OX, 0, MOVES, OX, WHEEL), 0, OX, WHEEL);
        moving("what lies ON does not take that along", dead(GOES, OX, 0, MOVES, OX, SACK), 0, OX, SACK);
        ForfeitBook x = dead(GOES, OX, 0, MOVES, OX, CART);
        x.on(STONE, SACK);
        x.on(MILL, WHEEL);
        x.on(OX, STONE);
        moving("ON and PARTS one after the other", x, 0, OX, CART, WHEEL, SACK, STONE, MILL);
        x.on(SACK, NONE);
        moving("what was lifted", x, 0, OX, CART, WHEEL, MILL);
        x.on(WHEEL, CART);
        moving("a PART that lies ON its WHOLE, too", x, 0, OX, CART, WHEEL, MILL);
        x.on(WHEEL, NONE);
        moving("a PART that was lifted is still a PART", x, 0, OX, CART, WHEEL, MILL);
        x.on(SACK, CART);
        moving("what was laid back", x, 0, OX, CART, WHEEL, MILL, SACK, STONE);
    }

    private static void moves() {
        moving("told backwards", dead(MOVES, STONE, SACK, MOVES, OX, STONE, GOES, OX, 0), 0, OX, STONE, SACK);
        moving("by one that does not move", dead(MOVES, OX, STONE), 0);
        moving("by one that can't go", dead(GOES, STONE, 0, MOVES, STONE, SACK), 0);
        moving("a STANDING one", dead(GOES, OX, 0, MOVES, OX, HOUSE, MOVES, HOUSE, STONE), 0, OX);
        moving("a STANDING PART, and what is PART of that",
            dead(GOES, OX, 0, MOVES, OX, POST, MOVES, OX, KNOB), 0, OX, KNOB);
        moving("in a ring", dead(GOES, OX, 0, MOVES, OX, STONE, MOVES, STONE, OX), 0, OX, STONE);
        moving("a ring that nothing sets off", dead(MOVES, OX, STONE, MOVES, STONE, OX), 0);
        moving("by what is taken along", dead(GOES, OX, 0, MOVES, OX, CART, MOVES, SACK, JUG), 0,
            OX, CART, WHEEL, SACK, JUG);
        moving("a BEAST that another one moves", dead(GOES, MILL, 0, MOVES, MILL, OX), 0, MILL, OX);
    }

    private static void blame() {
        toBlame("no ACTS", dead(), 0);
        toBlame("a BEAST that strikes", dead(GOES, OX, 0, STRIKES, OX, 0), 0, OX);
        toBlame("a BEAST that he fell from", dead(GOES, OX, 0, FELL, OX, 0), 0, OX);
        toBlame("what moves and strikes nobody", dead(GOES, OX, 0, MOVES, OX, STONE), 0);
        toBlame("what strikes and does not move", dead(STRIKES, STONE, 0), 0);
        toBlame("a PART, its WHOLE and its mover",
            dead(GOES, OX, 0, MOVES, OX, CART, STRIKES, WHEEL, 0), 0, OX, CART, WHEEL);
        toBlame("what lay ON it", dead(GOES, OX, 0, MOVES, OX, CART, FELL, SACK, 0), 0, OX, CART, SACK);
        toBlame("a WHOLE does not blame its PARTS",
            dead(GOES, OX, 0, MOVES, OX, CART, STRIKES, CART, 0), 0, OX, CART);
        toBlame("a STANDING PART of what moves", dead(GOES, OX, 0, MOVES, OX, CART, STRIKES, POST, 0), 0);
        toBlame("a mover is, not what it moved besides",
            dead(GOES, OX, 0, MOVES, OX, STONE, MOVES, OX, JUG, STRIKES, STONE, 0), 0, OX, STONE);
        toBlame("one that is moved does not blame on",
            dead(GOES, OX, 0, MOVES, OX, STONE, STRIKES, OX, 0), 0, OX);
        toBlame("two that strike", dead(GOES, OX, 0, GOES, MILL, 0, STRIKES, OX, 0, FELL, MILL, 0, FELL, HOUSE, 0), 0,
            OX, MILL);
    }

    private static void blameOfWhatMoves() {
        toBlame("a mover that does not move itself",
            dead(GOES, OX, 0, MOVES, OX, STONE, MOVES, JUG, STONE, STRIKES, STONE, 0), 0, OX, STONE);
        toBlame("a WHOLE that does not move",
            dead(GOES, OX, 0, MOVES, OX, WHEEL, STRIKES, WHEEL, 0), 0, OX, WHEEL);
        toBlame("ON one that does not move",
            dead(GOES, OX, 0, MOVES, OX, SACK, STRIKES, SACK, 0), 0, OX, SACK);
        toBlame("by way of one that does not move",
            dead(GOES, OX, 0, MOVES, OX, JUG, MOVES, OX, CART, STRIKES, JUG, 0), 0, OX, JUG);
        toBlame("one that moves beside them",
            dead(MOVES, MILL, STONE, GOES, MILL, 0, GOES, OX, 0, STRIKES, STONE, 0), 0, MILL, STONE);
        toBlame("told backwards, three deep",
            dead(STRIKES, JUG, 0, MOVES, STONE, JUG, MOVES, SACK, STONE, MOVES, OX, CART, GOES, OX, 0), 0,
            OX, CART, SACK, STONE, JUG);
        toBlame("a ring", dead(GOES, OX, 0, MOVES, OX, STONE, MOVES, STONE, MILL, MOVES, MILL, OX, STRIKES, OX, 0), 0,
            OX, STONE, MILL);
    }

    private static void doubtful() {
        ForfeitBook x = Scene.things();
        x.death(0, 1500, NONE);
        x.act(0, GOES, OX, 0, false);
        x.act(0, GOES, MILL, 0, true);
        x.act(0, MOVES, OX, STONE, false);
        x.act(0, STRIKES, STONE, 0, true);
        x.act(0, STRIKES, MILL, 0, false);
        moving("reading 0", x, 0, MILL);
        moving("reading 1", x, 1, MILL, OX);
        moving("reading 2", x, 2, MILL);
        moving("reading 3", x, 3, MILL, OX, STONE);
        moving("reading 7", x, 7, MILL, OX, STONE);
        toBlame("reading 0", x, 0);
        toBlame("reading 1", x, 1);
        toBlame("reading 3", x, 3, OX, STONE);
        toBlame("reading 4", x, 4, MILL);
        toBlame("reading 7", x, 7, OX, STONE, MILL);
    }

    private static void allThings() {
        ForfeitBook x = new ForfeitBook();
        for (int t = 0; t < 20; t++) {
            x.thing(t == 19 ? 1 : 0, 0, 1, NONE);
        }
        for (int t = 0; t < 19; t++) {
            x.on(t, t + 1);
        }
        x.death(0, 1500, NONE);
        x.act(0, GOES, 19, 0, true);
        x.act(0, FELL, 0, 0, true);
        Check.told(x, "moving: a heap of twenty", () -> x.moving(0, 0), 20, (1 << 20) - 1);
        Check.told(x, "blame: a heap of twenty", () -> x.blame(0, 0), 20, (1 << 20) - 1);
        ForfeitBook y = new ForfeitBook();
        for (int t = 0; t < 20; t++) {
            y.thing(t == 0 ? 2 : 0, 0, 1, t - 1 < 0 ? NONE : t - 1);
        }
        y.death(0, 1500, NONE);
        y.act(0, GOES, 0, 0, true);
        y.act(0, STRIKES, 19, 0, true);
        Check.told(y, "moving: PARTS twenty deep", () -> y.moving(0, 0), 20, (1 << 20) - 1);
        Check.told(y, "blame: PARTS twenty deep", () -> y.blame(0, 0), 20, (1 << 20) - 1);
    }

    private static void refused() {
        ForfeitBook x = dead(GOES, OX, 0, STRIKES, OX, 0);
        x.moving(0, 0);
        Check.bad(x, "moving(1, 0)", () -> x.moving(1, 0));
        Check.bad(x, "moving(-1, 0)", () -> x.moving(-1, 0));
        Check.bad(x, "moving(0, 1)", () -> x.moving(0, 1));
        Check.bad(x, "moving(0, -1)", () -> x.moving(0, -1));
        Check.bad(x, "moving(0, NONE)", () -> x.moving(0, NONE));
        Check.bad(x, "blame(1, 0)", () -> x.blame(1, 0));
        Check.bad(x, "blame(-1, 0)", () -> x.blame(-1, 0));
        Check.bad(x, "blame(0, 1)", () -> x.blame(0, 1));
        Check.bad(x, "blame(0, -1)", () -> x.blame(0, -1));
        for (int k = 0; k < 5; k++) {
            x.act(0, FELL, HOUSE, 0, false);
            int beyond = 1 << k + 1;
            Check.bad(x, "moving(0, " + beyond + ")", () -> x.moving(0, beyond));
            Check.bad(x, "blame(0, " + beyond + ")", () -> x.blame(0, beyond));
            Check.told(x, "moving(0, " + (beyond - 1) + ")", () -> x.moving(0, beyond - 1), 1, 1 << OX);
            Check.told(x, "blame(0, " + (beyond - 1) + ")", () -> x.blame(0, beyond - 1), 1, 1 << OX);
        }
        Check.bad(x, "moving(0, MAX)", () -> x.moving(0, Integer.MAX_VALUE));
        Check.bad(x, "blame(0, MIN)", () -> x.blame(0, Integer.MIN_VALUE));
    }
}
