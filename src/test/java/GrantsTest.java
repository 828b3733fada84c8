/** Promises 30 to 32: grant, taker, takes. */
public final class GrantsTest {
    private static final int NONE = ForfeitBook.NONE;
    private static final int STRIKES = 2, FELL = 3, KING = 9;

    public static void main(String[] args) {
        grant();
        taker();
        takerRefused();
        takerOfPrice();
        takes();
        takesNothing();
        takesRefused();
        Check.end();
    }

    private static void grant() {
        ForfeitBook x = new ForfeitBook();
        Check.quiet(x, "grant(0, 0, 1000, 1000, 0, 1)", () -> x.grant(0, 0, 1000, 1000, 0, 1), 1);
        Check.quiet(x, "grant(7, 7, 1000, 1900, 1023, 12)", () -> x.grant(7, 7, 1000, 1900, 1023, 12), 2);
        Check.bad(x, "a LORD of -1", () -> x.grant(-1, 0, 1500, 1500, 0, 1));
        Check.bad(x, "a LORD of 8", () -> x.grant(8, 0, 1500, 1500, 0, 1));
        Check.bad(x, "the KING is no LORD", () -> x.grant(KING, 0, 1500, 1500, 0, 1));
        Check.bad(x, "a PLACE of -1", () -> x.grant(0, -1, 1500, 1500, 0, 1));
        Check.bad(x, "a PLACE of 8", () -> x.grant(0, 8, 1500, 1500, 0, 1));
        Check.bad(x, "from 999", () -> x.grant(0, 0, 999, 1500, 0, 1));
        Check.bad(x, "to 1901", () -> x.grant(0, 0, 1500, 1901, 0, 1));
        Check.bad(x, "to a YEAR before", () -> x.grant(0, 0, 1500, 1499, 0, 1));
        Check.bad(x, "SORTS of -1", () -> x.grant(0, 0, 1500, 1500, -1, 1));
        Check.bad(x, "SORTS of 1024", () -> x.grant(0, 0, 1500, 1500, 1024, 1));
        Check.bad(x, "0 TWELFTHS", () -> x.grant(0, 0, 1500, 1500, 0, 0));
        Check.bad(x, "13 TWELFTHS", () -> x.grant(0, 0, 1500, 1500, 0, 13));
        Check.bad(x, "NONE for all", () -> x.grant(NONE, NONE, NONE, NONE, NONE, NONE));
        for (int g = 3; g <= 10; g++) {
            Check.due("grant " + g, x.grant(0, 0, 1500, 1500, 0, 1), g);
        }
        Check.full(x, "an eleventh GRANT", () -> x.grant(0, 0, 1500, 1500, 0, 1));
        Check.bad(x, "an eleventh GRANT: BAD ahead of FULL", () -> x.grant(0, 0, 1500, 1500, 0, 0));
    }

    /** THINGS 0, 1, 2 of their own SORT, 100 pence each, and 3 of SORT 9; all STOOD and strike in PLACE 4, 1500. */
    private static ForfeitBook book() {
        ForfeitBook x = new ForfeitBook();
        x.thing(3, 0, 100, NONE);
        x.thing(3, 1, 100, NONE);
        x.thing(3, 2, 100, NONE);
        x.thing(3, 9, 100, NONE);
        x.thing(3, 0, 100, NONE);
        x.text(1400, 1, true, 0);
        x.death(4, 1500, NONE);
        for (int t = 0; t < 4; t++) {
            x.act(0, STRIKES, t, 0, true);
        }
        return x;
    }

    private static void taker() {
        ForfeitBook x = book();
        Check.told(x, "taker() without GRANTS", () -> x.taker(0, 0), KING, 100);
        x.grant(0, 3, 1000, 1900, 1023, 12);
        x.grant(1, 4, 1000, 1499, 1023, 12);
        x.grant(2, 4, 1501, 1900, 1023, 12);
        x.grant(3, 4, 1000, 1900, 0, 12);
        Check.told(x, "taker() by GRANTS for other PLACES, YEARS, SORTS", () -> x.taker(0, 0), KING, 100);
        x.grant(5, 4, 1500, 1500, 1 | 1 << 9, 7);
        x.grant(6, 4, 1500, 1900, 3, 12);
        x.grant(7, 4, 1000, 1500, 4, 1);
        Check.told(x, "taker() by the GRANT told first", () -> x.taker(0, 0), 5, 58);
        Check.told(x, "taker() by a later GRANT for its SORT", () -> x.taker(0, 1), 6, 100);
        Check.told(x, "taker() of a twelfth, cut", () -> x.taker(0, 2), 7, 8);
        Check.told(x, "taker() by the greatest SORT", () -> x.taker(0, 3), 5, 58);
        Check.still(x, "taker() of what is not forfeit", () -> x.taker(0, 4), NONE);
        x.worth(2, 11);
        Check.told(x, "taker() of less than a penny", () -> x.taker(0, 2), 7, 0);
    }

    private static void takerRefused() {
        ForfeitBook x = book();
        x.taker(0, 0);
        Check.bad(x, "taker(1, 0)", () -> x.taker(1, 0));
        Check.bad(x, "taker(-1, 0)", () -> x.taker(-1, 0));
        Check.bad(x, "taker(0, 5)", () -> x.taker(0, 5));
        Check.bad(x, "taker(0, -1)", () -> x.taker(0, -1));
        Check.bad(x, "taker(0, NONE)", () -> x.taker(0, NONE));
        x.death(4, 1399, NONE);
        x.act(1, STRIKES, 0, 0, true);
        Check.still(x, "taker() with no TEXT IN FORCE", () -> x.taker(1, 0), NONE);
    }

    private static void takerOfPrice() {
        ForfeitBook x = new ForfeitBook();
        x.thing(0, 0, 1, NONE);
        x.thing(0, 1, 22, 0);
        x.thing(0, 2, 1000, NONE);
        x.on(2, 0);
        x.text(1000, 0, true, 0);
        x.death(0, 1000, NONE);
        x.act(0, FELL, 1, 0, true);
        x.act(0, FELL, 2, 0, false);
        x.grant(4, 0, 1000, 1000, 1, 6);
        Check.told(x, "taker() of the PRICE, by the SORT of the WHOLE", () -> x.taker(0, 0), 4, 11);
        Check.still(x, "taker() of a PART of it", () -> x.taker(0, 1), NONE);
        Check.still(x, "taker() of what is not forfeit in the DUE READING", () -> x.taker(0, 2), NONE);
    }

    private static void takes() {
        ForfeitBook x = book();
        x.death(4, 1600, NONE);
        x.act(1, FELL, 4, 0, true);
        x.act(1, FELL, 1, 0, true);
        x.act(1, FELL, 2, 0, false);
        x.death(0, 1700, NONE);
        x.act(2, FELL, 0, 0, true);
        x.death(4, 1800, NONE);
        Check.told(x, "takes(9) without GRANTS", () -> x.takes(KING, 1000, 1900), 3, 700);
        Check.told(x, "takes(0) without GRANTS", () -> x.takes(0, 1000, 1900), 0, 0);
        x.grant(0, 4, 1000, 1900, 1, 5);
        x.grant(1, 4, 1000, 1900, 1023, 1);
        x.grant(0, 0, 1700, 1700, 1, 12);
        Check.told(x, "takes(0)", () -> x.takes(0, 1000, 1900), 3, 41 + 41 + 100);
        Check.told(x, "takes(1)", () -> x.takes(1, 1000, 1900), 2, 24 + 8);
        Check.told(x, "takes(9), what is left", () -> x.takes(KING, 1000, 1900), 2, 59 + 3 * 92 + 59 + 92);
        Check.told(x, "takes(2)", () -> x.takes(2, 1000, 1900), 0, 0);
        Check.told(x, "takes(0) to 1699", () -> x.takes(0, 1500, 1699), 2, 82);
        Check.told(x, "takes(0) from 1501", () -> x.takes(0, 1501, 1700), 2, 141);
        Check.told(x, "takes(0) of one YEAR", () -> x.takes(0, 1600, 1600), 1, 41);
        Check.told(x, "takes(7)", () -> x.takes(7, 1000, 1900), 0, 0);
    }

    private static void takesNothing() {
        ForfeitBook x = new ForfeitBook();
        x.thing(3, 0, 1, NONE);
        x.thing(3, 1, 1, NONE);
        x.text(1000, 1, true, 0);
        x.death(0, 1500, NONE);
        x.act(0, FELL, 0, 0, true);
        x.act(0, FELL, 1, 0, true);
        x.grant(3, 0, 1500, 1500, 3, 11);
        Check.told(x, "takes(3): each THING is cut by itself", () -> x.takes(3, 1500, 1500), 0, 0);
        Check.told(x, "takes(9): what was cut is the KING's", () -> x.takes(KING, 1500, 1500), 1, 2);
        ForfeitBook y = new ForfeitBook();
        y.thing(3, 0, 1, NONE);
        y.text(1000, 1, true, 0);
        y.death(0, 1500, NONE);
        y.act(0, FELL, 0, 0, true);
        y.grant(3, 0, 1500, 1500, 3, 12);
        Check.told(y, "takes(3), all of it", () -> y.takes(3, 1500, 1500), 1, 1);
        Check.told(y, "takes(9), nothing", () -> y.takes(KING, 1500, 1500), 0, 0);
    }

    private static void takesRefused() {
        ForfeitBook x = book();
        x.takes(KING, 1000, 1900);
        Check.bad(x, "takes(-1, ..)", () -> x.takes(-1, 1000, 1900));
        Check.bad(x, "takes(8, ..)", () -> x.takes(8, 1000, 1900));
        Check.bad(x, "takes(10, ..)", () -> x.takes(10, 1000, 1900));
        Check.bad(x, "takes(NONE, ..)", () -> x.takes(NONE, 1000, 1900));
        Check.bad(x, "takes(0, 999, 1900)", () -> x.takes(0, 999, 1900));
        Check.bad(x, "takes(9, 1000, 1901)", () -> x.takes(KING, 1000, 1901));
        Check.bad(x, "takes(9, 1501, 1500)", () -> x.takes(KING, 1501, 1500));
    }
}
