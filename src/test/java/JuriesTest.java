/** Promises 26 to 29: jury, habit, worstPlace, shortfall. */
public final class JuriesTest {
    private static final int NONE = ForfeitBook.NONE;
    private static final int FELL = 3, NOUGHT = 4;

    public static void main(String[] args) {
        jury();
        habitByNumbers();
        cutByHalf();
        habitOfPlaceAndYears();
        habitRefused();
        worstPlace();
        shortfall();
        Check.end();
    }

    /** THING 0 of WORTH 100, 1 of 101, 2 of nothing; what STOOD counts. */
    private static ForfeitBook book() {
        ForfeitBook x = new ForfeitBook();
        x.thing(3, 0, 100, NONE);
        x.thing(3, 1, 101, NONE);
        x.thing(3, 2, 0, NONE);
        x.text(1000, 1, true, 0);
        return x;
    }

    private static void fell(ForfeitBook x, int place, int year, int told, int t) {
        int d = x.death(place, year, told);
        x.act(d, FELL, t, 0, true);
    }

    private static void jury() {
        ForfeitBook x = book();
        x.death(0, 1500, NONE);
        Check.quiet(x, "jury(0, 0)", () -> x.jury(0, 0), NONE);
        Check.quiet(x, "jury(0, 100000)", () -> x.jury(0, 100000), 0);
        Check.told(x, "deathTold(0, 2)", () -> x.deathTold(0, 2), 1, 100000);
        Check.quiet(x, "jury(0, NONE)", () -> x.jury(0, NONE), 100000);
        Check.quiet(x, "jury(0, NONE)", () -> x.jury(0, NONE), NONE);
        Check.bad(x, "jury(0, -1)", () -> x.jury(0, -1));
        Check.bad(x, "jury(0, -8)", () -> x.jury(0, -8));
        Check.bad(x, "jury(0, 100001)", () -> x.jury(0, 100001));
        Check.bad(x, "jury(1, 0)", () -> x.jury(1, 0));
        Check.bad(x, "jury(-1, 0)", () -> x.jury(-1, 0));
    }

    private static void habit(String call, ForfeitBook x, int[] asked, int answer, long upper, long lower) {
        int before = x.asked();
        Check.due(call, x.habit(asked[0], asked[1], asked[2]), answer);
        Check.due(call + ", upper()", x.upper(), upper);
        Check.due(call + ", lower()", x.lower(), lower);
        Check.due(call + ", asked()", x.asked(), before);
    }

    private static void habitByNumbers() {
        int[][] due = {
            {1, 0, 0, 1, 1}, {1, 1, 0, 1, 2}, {2, 0, 0, 1, 1}, {2, 1, 0, 3, 4}, {2, 2, 0, 1, 4}, {3, 2, 0, 1, 2},
            {4, 4, 0, 1, 16}, {4, 3, 0, 5, 16}, {5, 5, 1, 1, 32}, {5, 4, 0, 3, 16}, {6, 6, 1, 1, 64}, {6, 5, 0, 7, 64},
            {7, 6, 0, 1, 16}, {7, 7, 1, 1, 128}, {8, 7, 1, 9, 256}, {8, 6, 0, 37, 256}, {9, 8, 1, 5, 256},
            {9, 7, 0, 23, 256}, {10, 8, 0, 7, 128}, {10, 9, 1, 11, 1024}, {11, 9, 1, 67, 2048}, {11, 8, 0, 29, 256},
            {12, 0, 0, 1, 1}, {12, 1, 0, 4095, 4096}, {12, 6, 0, 1255, 2048}, {12, 9, 0, 299, 4096},
            {12, 10, 1, 79, 4096}, {12, 11, 1, 13, 4096}, {12, 12, 1, 1, 4096}};
        for (int[] one : due) {
            ForfeitBook x = book();
            for (int d = 0; d < one[0]; d++) {
                fell(x, 3, 1500, d < one[1] ? 49 : 50, 0);
            }
            habit("habit, " + one[1] + " of " + one[0], x, new int[] {3, 1000, 1900}, one[2], one[3], one[4]);
        }
    }

    private static void cutByHalf() {
        int[][] due = {{0, 49, 2}, {0, 50, 1}, {0, 0, 2}, {0, 100000, 1}, {1, 50, 2}, {1, 51, 1}};
        for (int[] one : due) {
            ForfeitBook x = book();
            fell(x, 0, 1500, one[1], one[0]);
            habit("habit, told " + one[1], x, new int[] {0, 1500, 1500}, 0, 1, one[2]);
        }
        ForfeitBook x = book();
        x.worth(2, 1);
        fell(x, 0, 1500, 0, 2);
        habit("habit of a penny that is DUE", x, new int[] {0, 1500, 1500}, 0, 1, 2);
    }

    private static void habitOfPlaceAndYears() {
        ForfeitBook x = book();
        fell(x, 7, 1500, 0, 0);
        fell(x, 7, 1600, 0, 0);
        fell(x, 7, 1550, NONE, 0);
        fell(x, 7, 1550, 0, 2);
        fell(x, 6, 1550, 100, 0);
        x.death(7, 1550, 0);
        habit("habit: gaps, nothing DUE and other PLACES aside", x, new int[] {7, 1500, 1600}, 0, 1, 4);
        habit("habit from the next YEAR on", x, new int[] {7, 1501, 1600}, 0, 1, 2);
        habit("habit to the YEAR ahead", x, new int[] {7, 1500, 1599}, 0, 1, 2);
        habit("habit of the greatest years", x, new int[] {7, 1000, 1900}, 0, 1, 4);
        habit("habit of another PLACE", x, new int[] {6, 1550, 1550}, 0, 1, 1);
        Check.finding(x, "habit of no DEATHS that count", NOUGHT, () -> x.habit(7, 1501, 1599));
        Check.finding(x, "habit of no DEATHS", NOUGHT, () -> x.habit(0, 1000, 1900));
        x.jury(2, 100);
        habit("habit once the gap is told", x, new int[] {7, 1500, 1600}, 0, 1, 2);
    }

    private static void habitRefused() {
        ForfeitBook x = book();
        fell(x, 0, 1500, 0, 0);
        x.habit(0, 1000, 1900);
        Check.bad(x, "habit(-1, 1000, 1900)", () -> x.habit(-1, 1000, 1900));
        Check.bad(x, "habit(8, 1000, 1900)", () -> x.habit(8, 1000, 1900));
        Check.bad(x, "habit(0, 999, 1900)", () -> x.habit(0, 999, 1900));
        Check.bad(x, "habit(0, 1000, 1901)", () -> x.habit(0, 1000, 1901));
        Check.bad(x, "habit(0, 1501, 1500)", () -> x.habit(0, 1501, 1500));
        Check.bad(x, "habit(8, 1501, 1500)", () -> x.habit(8, 1501, 1500));
        Check.finding(x, "habit(1, 1000, 1900)", NOUGHT, () -> x.habit(1, 1000, 1900));
    }

    private static void worstPlace() {
        ForfeitBook x = book();
        Check.still(x, "worstPlace without DEATHS", () -> x.worstPlace(1000, 1900), NONE);
        fell(x, 5, 1500, NONE, 0);
        fell(x, 5, 1500, 0, 2);
        Check.still(x, "worstPlace of none that count", () -> x.worstPlace(1000, 1900), NONE);
        fell(x, 7, 1500, 100, 0);
        Check.still(x, "worstPlace of the only one", () -> x.worstPlace(1000, 1900), 7);
        fell(x, 6, 1500, 100, 0);
        Check.still(x, "worstPlace, the least of alike ones", () -> x.worstPlace(1000, 1900), 6);
        fell(x, 7, 1600, 0, 0);
        Check.still(x, "worstPlace: 3 by 4 against 1", () -> x.worstPlace(1000, 1900), 7);
        Check.still(x, "worstPlace of other YEARS", () -> x.worstPlace(1000, 1599), 6);
        fell(x, 0, 1700, 0, 0);
        Check.still(x, "worstPlace: 1 by 2 against 3 by 4", () -> x.worstPlace(1000, 1900), 0);
        fell(x, 1, 1700, 0, 0);
        fell(x, 1, 1701, 100, 0);
        fell(x, 1, 1702, 0, 0);
        Check.still(x, "worstPlace: 1 by 2 in both, of unlike numbers", () -> x.worstPlace(1000, 1900), 0);
        Check.still(x, "worstPlace of the two later YEARS", () -> x.worstPlace(1701, 1702), 1);
        fell(x, 1, 1703, 0, 0);
        Check.still(x, "worstPlace: 5 by 16", () -> x.worstPlace(1000, 1900), 1);
        Check.bad(x, "worstPlace(999, 1900)", () -> x.worstPlace(999, 1900));
        Check.bad(x, "worstPlace(1000, 1901)", () -> x.worstPlace(1000, 1901));
        Check.bad(x, "worstPlace(1501, 1500)", () -> x.worstPlace(1501, 1500));
    }

    private static void shortfall() {
        ForfeitBook x = book();
        Check.told(x, "shortfall without DEATHS", () -> x.shortfall(1000, 1900), 0, 0);
        fell(x, 0, 1500, 40, 0);
        fell(x, 1, 1510, 201, 1);
        fell(x, 2, 1520, NONE, 0);
        fell(x, 3, 1530, 5, 2);
        x.death(4, 1540, 100000);
        Check.told(x, "shortfall(1500, 1500)", () -> x.shortfall(1500, 1500), 1, 60);
        Check.told(x, "shortfall(1510, 1510), more", () -> x.shortfall(1510, 1510), 1, -100);
        Check.told(x, "shortfall(1520, 1520), a gap", () -> x.shortfall(1520, 1520), 0, 0);
        Check.told(x, "shortfall(1500, 1530)", () -> x.shortfall(1500, 1530), 3, -45);
        Check.told(x, "shortfall(1501, 1539)", () -> x.shortfall(1501, 1539), 2, -105);
        Check.told(x, "shortfall(1000, 1900)", () -> x.shortfall(1000, 1900), 4, -100045);
        Check.bad(x, "shortfall(999, 1900)", () -> x.shortfall(999, 1900));
        Check.bad(x, "shortfall(1000, 1901)", () -> x.shortfall(1000, 1901));
        Check.bad(x, "shortfall(1501, 1500)", () -> x.shortfall(1501, 1500));
    }
}
