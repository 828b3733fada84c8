/** Promises 18 to 25: text, inForce, forfeit, value, sure, due, unlike, settle. */
public final class TextsTest {
    private static final int NONE = ForfeitBook.NONE;
    private static final int GOES = 0, MOVES = 1, STRIKES = 2, FELL = 3;
    private static final int OX = 0, CART = 1, WHEEL = 2, POST = 3, KNOB = 4, SACK = 5, STONE = 8, MILL = 9, HOUSE = 10;

    public static void main(String[] args) {
        text();
        inForce();
        forfeitByRules();
        forfeitWithFreeSorts();
        forfeitWithoutParts();
        forfeitRefused();
        value();
        sure();
        due();
        unlike();
        settle();
        settleOfAlike();
        Check.end();
    }

    private static void text() {
        ForfeitBook x = new ForfeitBook();
        Check.quiet(x, "text(1000, 0, false, 0)", () -> x.text(1000, 0, false, 0), 0);
        Check.quiet(x, "text(1900, 3, true, 1023)", () -> x.text(1900, 3, true, 1023), 1);
        Check.bad(x, "text(999, 0, false, 0)", () -> x.text(999, 0, false, 0));
        Check.bad(x, "text(1901, 0, false, 0)", () -> x.text(1901, 0, false, 0));
        Check.bad(x, "text(1500, -1, false, 0)", () -> x.text(1500, -1, false, 0));
        Check.bad(x, "text(1500, 4, false, 0)", () -> x.text(1500, 4, false, 0));
        Check.bad(x, "text(1500, 0, false, -1)", () -> x.text(1500, 0, false, -1));
        Check.bad(x, "text(1500, 0, false, 1024)", () -> x.text(1500, 0, false, 1024));
        Check.bad(x, "text(NONE, NONE, false, NONE)", () -> x.text(NONE, NONE, false, NONE));
        for (int n = 2; n < 8; n++) {
            Check.due("text " + n, x.text(1500, n % 4, n % 2 == 0, n), n);
        }
        Check.full(x, "a ninth TEXT", () -> x.text(1500, 0, false, 0));
        Check.bad(x, "a ninth TEXT: BAD ahead of FULL", () -> x.text(1500, 4, false, 0));
    }

    private static void inForce() {
        ForfeitBook x = new ForfeitBook();
        Check.still(x, "inForce(1900) without TEXTS", () -> x.inForce(1900), NONE);
        x.text(1500, 0, false, 0);
        Check.still(x, "inForce(1499)", () -> x.inForce(1499), NONE);
        Check.still(x, "inForce(1500)", () -> x.inForce(1500), 0);
        Check.still(x, "inForce(1900)", () -> x.inForce(1900), 0);
        x.text(1400, 0, false, 0);
        Check.still(x, "inForce(1500), an older one told later", () -> x.inForce(1500), 0);
        Check.still(x, "inForce(1499)", () -> x.inForce(1499), 1);
        x.text(1500, 0, false, 0);
        Check.still(x, "inForce(1500), of alike ones the last told", () -> x.inForce(1500), 2);
        x.text(1900, 0, false, 0);
        x.text(1000, 0, false, 0);
        Check.still(x, "inForce(1899)", () -> x.inForce(1899), 2);
        Check.still(x, "inForce(1900)", () -> x.inForce(1900), 3);
        Check.still(x, "inForce(1000)", () -> x.inForce(1000), 4);
        Check.still(x, "inForce(1399)", () -> x.inForce(1399), 4);
        Check.bad(x, "inForce(999)", () -> x.inForce(999));
        Check.bad(x, "inForce(1901)", () -> x.inForce(1901));
        Check.bad(x, "inForce(NONE)", () -> x.inForce(NONE));
    }

    /** All eight TEXTS without free SORTS: number 2 * RULE, and 1 more if what STOOD counts. */
    private static void allRules(ForfeitBook x, int free) {
        for (int n = 0; n < 8; n++) {
            x.text(1900, n / 2, n % 2 == 1, free);
        }
    }

    private static void falls(String what, ForfeitBook x, int text, int... due) {
        Check.told(x, "forfeit: " + what, () -> x.forfeit(0, 0, text), due.length, Scene.set(due));
    }

    private static void forfeitByRules() {
        ForfeitBook x = Scene.things();
        x.death(0, 1500, NONE);
        x.act(0, GOES, OX, 0, true);
        x.act(0, MOVES, OX, CART, true);
        x.act(0, STRIKES, WHEEL, 0, true);
        x.act(0, FELL, HOUSE, 0, true);
        x.act(0, STRIKES, KNOB, 0, true);
        allRules(x, 0);
        falls("TOPS of what is HIT", x, 0, CART);
        falls("TOPS of what is HIT, STOOD, too", x, 1, CART, HOUSE);
        falls("what is HIT", x, 2, WHEEL);
        falls("what is HIT, STOOD, too", x, 3, WHEEL, KNOB, HOUSE);
        falls("TOPS of what is TO BLAME", x, 4, OX, CART);
        falls("TOPS of what is TO BLAME, STOOD, too", x, 5, OX, CART, HOUSE);
        falls("what is TO BLAME", x, 6, OX, CART);
        falls("what is TO BLAME, STOOD, too", x, 7, OX, CART, HOUSE);
        ForfeitBook y = Scene.things();
        y.death(0, 1500, NONE);
        y.act(0, STRIKES, KNOB, 0, true);
        allRules(y, 0);
        falls("TOPS of a KNOB that did not move", y, 0);
        falls("TOPS of a KNOB that STOOD", y, 1, CART);
        falls("a KNOB that did not move", y, 2);
        falls("a KNOB that STOOD", y, 3, KNOB);
        falls("TOPS of nothing TO BLAME", y, 4);
        falls("TOPS, with a KNOB that STOOD", y, 5, CART);
        falls("nothing TO BLAME", y, 6);
        falls("nothing TO BLAME, with a KNOB that STOOD", y, 7, KNOB);
    }

    private static void forfeitWithFreeSorts() {
        ForfeitBook x = Scene.things();
        x.death(0, 1500, NONE);
        x.act(0, GOES, OX, 0, true);
        x.act(0, MOVES, OX, CART, true);
        x.act(0, STRIKES, WHEEL, 0, true);
        x.act(0, FELL, HOUSE, 0, true);
        x.act(0, STRIKES, KNOB, 0, true);
        allRules(x, 1 << CART);
        falls("a free CART that is the TOP", x, 0);
        falls("a free CART, STOOD", x, 1, HOUSE);
        falls("a WHEEL of a free CART", x, 2, WHEEL);
        falls("a WHEEL of a free CART, STOOD", x, 3, WHEEL, KNOB, HOUSE);
        falls("TOPS TO BLAME, a free CART", x, 4, OX);
        falls("TOPS TO BLAME, a free CART, STOOD", x, 5, OX, HOUSE);
        falls("TO BLAME, a free CART: its WHEEL is left", x, 6, OX, WHEEL);
        falls("TO BLAME, a free CART, STOOD", x, 7, OX, WHEEL, KNOB, HOUSE);
        ForfeitBook y = Scene.things();
        y.death(0, 1500, NONE);
        y.act(0, GOES, OX, 0, true);
        y.act(0, STRIKES, OX, 0, true);
        y.act(0, STRIKES, HOUSE, 0, true);
        y.act(0, STRIKES, MILL, 0, true);
        allRules(y, 1 << OX | 1 << CART);
        falls("two of one free SORT", y, 3, MILL);
        ForfeitBook z = Scene.things();
        z.death(0, 1500, NONE);
        z.act(0, FELL, MILL, 0, true);
        allRules(z, 1 << 9);
        falls("the greatest SORT free", z, 1);
        ForfeitBook all = Scene.things();
        all.death(0, 1500, NONE);
        all.act(0, FELL, HOUSE, 0, true);
        allRules(all, 1023);
        falls("all SORTS free", all, 7);
    }

    private static void forfeitWithoutParts() {
        ForfeitBook x = Scene.things();
        x.death(0, 1500, NONE);
        x.act(0, STRIKES, KNOB, 0, true);
        x.act(0, STRIKES, CART, 0, true);
        allRules(x, 0);
        falls("a PART of a PART of what is forfeit", x, 3, CART);
        x.act(0, STRIKES, POST, 0, true);
        falls("three in a line", x, 3, CART);
        ForfeitBook y = Scene.things();
        y.death(0, 1500, NONE);
        y.act(0, STRIKES, KNOB, 0, true);
        y.act(0, STRIKES, POST, 0, true);
        y.act(0, STRIKES, SACK, 0, true);
        allRules(y, 0);
        falls("a PART of what is forfeit; what lies ON is none", y, 3, POST, SACK);
        ForfeitBook z = Scene.things();
        z.death(0, 1500, NONE);
        z.act(0, STRIKES, KNOB, 0, true);
        z.act(0, STRIKES, CART, 0, true);
        z.act(0, STRIKES, POST, 0, true);
        allRules(z, 1 << CART | 1 << POST);
        falls("free WHOLES leave the PART", z, 3, KNOB);
    }

    private static void forfeitRefused() {
        ForfeitBook x = Scene.things();
        x.death(0, 1500, NONE);
        x.act(0, STRIKES, KNOB, 0, false);
        Check.bad(x, "forfeit(0, 0, 0) without TEXTS", () -> x.forfeit(0, 0, 0));
        x.text(1900, 1, true, 0);
        Check.told(x, "forfeit(0, 1, 0), a TEXT not IN FORCE", () -> x.forfeit(0, 1, 0), 1, 1 << KNOB);
        Check.bad(x, "forfeit(0, 0, 1)", () -> x.forfeit(0, 0, 1));
        Check.bad(x, "forfeit(0, 0, -1)", () -> x.forfeit(0, 0, -1));
        Check.bad(x, "forfeit(0, 0, NONE)", () -> x.forfeit(0, 0, NONE));
        Check.bad(x, "forfeit(0, 2, 0)", () -> x.forfeit(0, 2, 0));
        Check.bad(x, "forfeit(0, -1, 0)", () -> x.forfeit(0, -1, 0));
        Check.bad(x, "forfeit(1, 0, 0)", () -> x.forfeit(1, 0, 0));
        Check.bad(x, "forfeit(-1, 0, 0)", () -> x.forfeit(-1, 0, 0));
    }

    /** One DEATH with three doubtful ACTS, by a TEXT of which rule 1 is in force from the YEAR of the DEATH on. */
    private static ForfeitBook doubtful() {
        ForfeitBook x = Scene.things();
        x.death(0, 1500, NONE);
        x.act(0, GOES, OX, 0, false);
        x.act(0, MOVES, OX, CART, true);
        x.act(0, STRIKES, CART, 0, true);
        x.act(0, STRIKES, OX, 0, false);
        x.act(0, FELL, STONE, 0, false);
        return x;
    }

    private static void value() {
        ForfeitBook x = doubtful();
        Check.told(x, "value() without a TEXT", () -> x.value(0, 3), 0, 0);
        x.text(1501, 3, true, 0);
        Check.told(x, "value() with a TEXT of a later YEAR", () -> x.value(0, 3), 0, 0);
        x.text(1500, 1, false, 0);
        int[] sets = {0, Scene.set(CART), 0, Scene.set(OX, CART), 0, Scene.set(CART), 0, Scene.set(OX, CART)};
        int[] values = {0, 30, 0, 31, 0, 30, 0, 31};
        for (int reading = 0; reading < 8; reading++) {
            int which = reading;
            Check.told(x, "value(0, " + reading + ")", () -> x.value(0, which), values[reading], sets[reading]);
        }
        x.worth(KNOB, 10000);
        Check.told(x, "value() by a PART's new WORTH", () -> x.value(0, 1), 10014, 1 << CART);
        Check.bad(x, "value(0, 8)", () -> x.value(0, 8));
        Check.bad(x, "value(0, -1)", () -> x.value(0, -1));
        Check.bad(x, "value(1, 0)", () -> x.value(1, 0));
        Check.bad(x, "value(-1, 0)", () -> x.value(-1, 0));
    }

    private static void sure() {
        ForfeitBook x = doubtful();
        Check.told(x, "sure() without a TEXT", () -> x.sure(0, false), 0, 0);
        Check.told(x, "maybe without a TEXT", () -> x.sure(0, true), 0, 0);
        x.text(1500, 1, false, 0);
        Check.told(x, "sure()", () -> x.sure(0, false), 0, 0);
        Check.told(x, "maybe", () -> x.sure(0, true), 2, Scene.set(OX, CART));
        x.text(1500, 1, true, 0);
        Check.told(x, "sure(), STOOD, too", () -> x.sure(0, false), 1, Scene.set(CART));
        Check.told(x, "maybe, STOOD, too", () -> x.sure(0, true), 3, Scene.set(OX, CART, STONE));
        x.death(0, 1500, NONE);
        x.act(1, FELL, HOUSE, 0, true);
        Check.told(x, "sure() of one READING", () -> x.sure(1, false), 1, Scene.set(HOUSE));
        Check.told(x, "maybe of one READING", () -> x.sure(1, true), 1, Scene.set(HOUSE));
        wholeInsteadOfPart();
        Check.bad(x, "sure(2, false)", () -> x.sure(2, false));
        Check.bad(x, "sure(-1, true)", () -> x.sure(-1, true));
        Check.bad(x, "sure(NONE, true)", () -> x.sure(NONE, true));
    }

    /** A PART that is forfeit in one READING falls with its WHOLE in another one, and is in neither surely. */
    private static void wholeInsteadOfPart() {
        ForfeitBook x = Scene.things();
        x.text(1000, 1, true, 0);
        x.death(0, 1500, NONE);
        x.act(0, STRIKES, KNOB, 0, true);
        x.act(0, STRIKES, CART, 0, false);
        Check.told(x, "sure() of a PART and its WHOLE", () -> x.sure(0, false), 0, 0);
        Check.told(x, "maybe of a PART and its WHOLE", () -> x.sure(0, true), 2, Scene.set(KNOB, CART));
        Check.told(x, "due() of the PART", () -> x.due(0), 16, 0);
    }

    private static void due() {
        ForfeitBook x = doubtful();
        Check.told(x, "due() without a TEXT", () -> x.due(0), 0, 0);
        x.text(1500, 1, false, 0);
        Check.told(x, "due()", () -> x.due(0), 0, 0);
        ForfeitBook y = Scene.things();
        y.text(1000, 0, false, 0);
        y.death(0, 1000, NONE);
        y.act(0, GOES, OX, 0, true);
        y.act(0, MOVES, OX, CART, false);
        y.act(0, MOVES, OX, STONE, true);
        y.act(0, STRIKES, STONE, 0, false);
        y.act(0, STRIKES, WHEEL, 0, true);
        y.act(0, STRIKES, OX, 0, true);
        Check.told(y, "due(): 1 in READING 0", () -> y.due(0), 1, 0);
        y.text(1000, 2, true, 0);
        Check.told(y, "due(): 31 in all, the first READING", () -> y.due(0), 31, 0);
        ForfeitBook z = Scene.things();
        z.text(1000, 1, false, 0);
        z.text(1000, 3, true, 0);
        z.death(0, 1900, NONE);
        z.act(0, FELL, WHEEL, 0, true);
        z.act(0, STRIKES, HOUSE, 0, true);
        z.act(0, GOES, MILL, 0, false);
        Check.told(z, "due(): STOOD", () -> z.due(0), 1028, 0);
        ForfeitBook last = Scene.things();
        last.thing(1, 1, 10000, NONE);
        last.text(1000, 3, true, 1 << 0);
        last.death(0, 1900, NONE);
        last.act(0, GOES, 11, 0, true);
        last.act(0, MOVES, OX, STONE, false);
        last.act(0, MOVES, OX, SACK, false);
        last.act(0, GOES, OX, 0, false);
        last.act(0, MOVES, STONE, OX, true);
        last.act(0, FELL, SACK, 0, true);
        last.act(0, FELL, STONE, 0, true);
        Check.told(last, "due(): all alike, the first", () -> last.due(0), 288, 0);
        ForfeitBook before = Scene.things();
        before.text(1500, 1, true, 0);
        before.death(0, 1500, NONE);
        before.death(0, 1499, NONE);
        before.act(0, FELL, HOUSE, 0, true);
        before.act(1, FELL, HOUSE, 0, true);
        Check.told(before, "due() of the YEAR of the TEXT", () -> before.due(0), 1024, 0);
        Check.told(before, "due() of the YEAR ahead", () -> before.due(1), 0, 0);
        dueIsOfTheFirstReading();
        Check.bad(x, "due(1)", () -> x.due(1));
        Check.bad(x, "due(-1)", () -> x.due(-1));
        Check.bad(x, "due(12)", () -> x.due(12));
    }

    /** More ACTS never make a VALUE less, so the first READING with the least one is always 0. */
    private static void dueIsOfTheFirstReading() {
        ForfeitBook x = new ForfeitBook();
        x.thing(1, 0, 5, NONE);
        x.thing(0, 1, 10, NONE);
        x.thing(0, 2, 100, 1);
        x.text(1000, 3, true, 1 << 1);
        x.death(0, 1500, NONE);
        x.act(0, STRIKES, 2, 0, true);
        x.act(0, GOES, 0, 0, false);
        x.act(0, MOVES, 0, 1, true);
        Check.told(x, "due() with more in the later READING", () -> x.due(0), 100, 0);
        Check.told(x, "value() of the later READING", () -> x.value(0, 1), 105, Scene.set(0, 2));
        ForfeitBook y = new ForfeitBook();
        y.thing(1, 0, 0, NONE);
        y.thing(0, 1, 7, NONE);
        y.text(1000, 1, true, 0);
        y.death(0, 1500, NONE);
        y.act(0, STRIKES, 1, 0, true);
        y.act(0, STRIKES, 0, 0, false);
        Check.told(y, "due() with a THING of WORTH 0 more in the later READING", () -> y.due(0), 7, 0);
    }

    private static void unlike() {
        ForfeitBook x = doubtful();
        Check.still(x, "unlike() without a TEXT", () -> x.unlike(0), 1);
        x.text(1500, 1, false, 0);
        Check.still(x, "unlike()", () -> x.unlike(0), 3);
        x.text(1500, 1, true, 0);
        Check.still(x, "unlike(), STOOD, too", () -> x.unlike(0), 4);
        ForfeitBook y = new ForfeitBook();
        y.text(1000, 1, true, 0);
        y.death(0, 1500, NONE);
        Check.still(y, "unlike() without ACTS", () -> y.unlike(0), 1);
        for (int t = 0; t < 5; t++) {
            y.thing(0, 0, 0, NONE);
            y.act(0, STRIKES, t, 0, false);
            int due = 2 << t;
            Check.still(y, "unlike() of " + due, () -> y.unlike(0), due);
        }
        Check.bad(y, "unlike(1)", () -> y.unlike(1));
        Check.bad(y, "unlike(-1)", () -> y.unlike(-1));
    }

    private static void settle() {
        ForfeitBook x = doubtful();
        x.text(1500, 1, false, 0);
        Check.told(x, "settle(): the OX goes or not", () -> x.settle(0), 0, 2);
        x.text(1500, 1, true, 0);
        Check.told(x, "settle(), STOOD, too", () -> x.settle(0), 3, 2);
        x.death(0, 1500, NONE);
        x.told(KNOB, 5);
        Check.still(x, "settle() without ACTS", () -> x.settle(1), NONE);
        x.act(1, FELL, HOUSE, 0, true);
        Check.still(x, "settle() without doubtful ACTS", () -> x.settle(1), NONE);
        x.act(1, FELL, HOUSE, 0, false);
        Check.told(x, "settle() of the only one", () -> x.settle(1), 1, 1);
        Check.bad(x, "settle(2)", () -> x.settle(2));
        Check.bad(x, "settle(-1)", () -> x.settle(-1));
    }

    private static void settleOfAlike() {
        ForfeitBook x = new ForfeitBook();
        x.text(1000, 1, true, 0);
        x.death(0, 1500, NONE);
        for (int t = 0; t < 5; t++) {
            x.thing(0, 0, 0, NONE);
            x.act(0, STRIKES, t, 0, true);
            x.act(0, STRIKES, t, 0, false);
        }
        Check.told(x, "settle() of five that change nothing", () -> x.settle(0), 1, 1);
        ForfeitBook y = new ForfeitBook();
        y.text(1000, 1, true, 0);
        y.death(0, 1500, NONE);
        y.thing(0, 0, 0, NONE);
        y.act(0, STRIKES, 0, 0, true);
        y.act(0, GOES, 0, 0, false);
        for (int t = 1; t < 5; t++) {
            y.thing(0, 0, 0, NONE);
            y.act(0, STRIKES, t, 0, false);
        }
        Check.told(y, "settle() of four that matter alike", () -> y.settle(0), 2, 8);
        ForfeitBook z = new ForfeitBook();
        z.text(1000, 1, false, 0);
        z.death(0, 1500, NONE);
        z.thing(1, 0, 0, NONE);
        z.thing(1, 0, 0, NONE);
        z.act(0, STRIKES, 0, 0, false);
        z.act(0, STRIKES, 1, 0, false);
        z.act(0, GOES, 1, 0, true);
        z.act(0, GOES, 0, 0, false);
        Check.told(z, "settle() by the worse case", () -> z.settle(0), 1, 2);
    }
}
