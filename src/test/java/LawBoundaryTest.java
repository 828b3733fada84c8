import java.io.IOException;
import java.util.function.Supplier;

/** The boundaries that the document's terms 3 and 4 name: juries, grants, changes. */
public final class LawBoundaryTest extends Boundary {
    public static void main(String[] args) throws IOException {
        open(args);
        cut();
        cutOfNothingDue();
        cutAtTheMost();
        habit();
        chance();
        pastChance();
        tenGrants();
        lordsAndYears();
        sortsAndTwelfths();
        firstGrant();
        twelfthsCut();
        dueReadingAndText();
        changeForAllYears();
        otherwise();
        freed();
        leastChange();
        leastChangeAsTold();
        leastChangeNeedsAllAndNoOther();
        leastChangeInOrder();
        end("3", "4");
    }

    /** One STANDING THING of this WORTH, and a DEATH in PLACE 0, 1500, by it; what STOOD counts from 1000 on. */
    private static ForfeitBook fallen(int worth, int told) {
        ForfeitBook x = new ForfeitBook();
        x.thing(STANDING, 0, worth, NONE);
        x.text(1000, 1, true, 0);
        x.jury(die(x, FELL, 0, 0, SURE), told);
        return x;
    }

    private static void cutOrNot(boolean isCut, ForfeitBook x) {
        answers(x, 0, "habit", 0, 1500, 1500);
        Check.due("upper()", x.upper(), 1);
        Check.due("lower() is 2 if CUT", x.lower(), isCut ? 2 : 1);
    }

    private static void cut() {
        says("3", "and a told worth of less than half of it.");
        cutOrNot(true, fallen(10000, 4999));
        cutOrNot(false, fallen(10000, 5000));
        cutOrNot(false, fallen(10000, 5001));
        cutOrNot(true, fallen(9999, 4999));
        cutOrNot(false, fallen(9999, 5000));
        cutOrNot(true, fallen(1, 0));
        cutOrNot(false, fallen(1, 1));
        cutOrNot(true, fallen(2, 0));
        cutOrNot(false, fallen(2, 1));
        cutOrNot(false, fallen(1, 100000));
    }

    private static void cutOfNothingDue() {
        says("3", "CUT is a DEATH with DUE above 0,");
        finds(fallen(0, 0), NOUGHT, "habit", 0, 1500, 1500);
        finds(fallen(0, 100000), NOUGHT, "habit", 0, 1500, 1500);
        cutOrNot(true, fallen(1, 0));
    }

    /** The greatest DUE there can be is 200000, of which the greatest told worth is just the half. */
    private static void cutAtTheMost() {
        says("3", "a told worth of less than half of it");
        ForfeitBook x = new ForfeitBook();
        for (int t = 0; t < 20; t++) {
            x.thing(STANDING, 0, 10000, t == 0 ? NONE : 0);
        }
        x.text(1000, 1, true, 0);
        x.jury(die(x, FELL, 0, 0, SURE), 100000);
        tells(x, 200000, 0, "due", 0);
        cutOrNot(false, x);
        x.jury(0, 99999);
        cutOrNot(true, x);
    }

    private static void habit() {
        says("3", "HABIT of a PLACE from a YEAR to a YEAR: of n DEATHS there and then with DUE above 0 and told worths"
            + " k are CUT");
        ForfeitBook x = fallen(100, 0);
        x.thing(STANDING, 0, 0, NONE);
        int[][] aside = {{1, 1500, 0, 0}, {0, 1499, 0, 0}, {0, 1501, 0, 0}, {0, 1500, NONE, 0}, {0, 1500, 0, 1}};
        for (int[] one : aside) {
            int d = x.death(one[0], one[1], one[2]);
            x.act(d, FELL, one[3], 0, true);
            cutOrNot(true, x);
        }
        answers(x, 0, "habit", 0, 1499, 1501);
        Check.due("lower() of three YEARS", x.lower(), 8);
        answers(x, 0, "habit", 0, 1499, 1500);
        Check.due("lower() of two YEARS", x.lower(), 4);
        answers(x, 0, "habit", 0, 1500, 1501);
        Check.due("lower() of the other two YEARS", x.lower(), 4);
        x.jury(4, 50);
        answers(x, 0, "habit", 0, 1500, 1500);
        Check.due("upper() of one CUT of two", x.upper(), 3);
        Check.due("lower() of one CUT of two", x.lower(), 4);
    }

    private static long choose(int n, int k) {
        return k < 0 || k > n ? 0 : k == 0 ? 1 : choose(n - 1, k - 1) + choose(n - 1, k);
    }

    /** Every n from 1 to 12 and every k from 0 to n. */
    private static void eachChance(boolean isPastChance) {
        for (int n = 1; n <= 12; n++) {
            ForfeitBook x = things(STANDING, 1);
            x.text(1000, 1, true, 0);
            for (int d = 0; d < n; d++) {
                x.jury(die(x, FELL, 0, 0, SURE), 1);
            }
            for (int k = 0; k <= n; k++) {
                if (k > 0) x.jury(k - 1, 0);
                long ways = 0;
                for (int heads = k; heads <= n; heads++) ways += choose(n, heads);
                int answer = x.habit(0, 1500, 1500);
                if (isPastChance) {
                    Check.due("habit() of " + k + " by " + n, answer, 20 * ways < 1 << n ? 1 : 0);
                } else {
                    Check.due("upper() by lower() of " + k + " by " + n, x.upper() << n, ways * x.lower());
                    Check.isTrue("lowest terms of " + k + " by " + n, x.upper() % 2 == 1 || x.lower() == 1);
                }
            }
        }
    }

    private static void chance() {
        says("3", ": CHANCE: that of n throws of a coin k or more fall heads (n 0: NOUGHT).");
        eachChance(false);
        finds(new ForfeitBook(), NOUGHT, "habit", 0, 1000, 1900);
        finds(fallen(1, NONE), NOUGHT, "habit", 0, 1000, 1900);
    }

    private static void pastChance() {
        says("3", "It is PAST CHANCE, if that is below 1 by 20.");
        eachChance(true);
    }

    private static void tenGrants() {
        says("3", "GRANTS (10 at most)");
        ForfeitBook x = new ForfeitBook();
        for (int g = 1; g <= 10; g++) {
            answers(x, g, "grant", 0, 0, 1500, 1500, 1, 1);
        }
        full(x, "grant", 0, 0, 1500, 1500, 1, 1);
        answers(x, 10, "count", 4);
    }

    private static void lordsAndYears() {
        says("3", ": a LORD 0 .. 7 has in a PLACE from a YEAR to a YEAR,");
        within(ForfeitBook::new, 0, 0, 7, "grant", 0, 0, 1500, 1500, 1, 1);
        within(ForfeitBook::new, 1, 0, 7, "grant", 0, 0, 1500, 1500, 1, 1);
        within(ForfeitBook::new, 2, 1000, 1500, "grant", 0, 0, 1500, 1500, 1, 1);
        within(ForfeitBook::new, 3, 1500, 1900, "grant", 0, 0, 1500, 1500, 1, 1);
        bad(new ForfeitBook(), "grant", KING, 0, 1500, 1500, 1, 1);
        int[][] aside = {{1, 1500, 1500}, {0, 1499, 1499}, {0, 1501, 1501}, {0, 1000, 1499}, {0, 1501, 1900}};
        ForfeitBook x = fallen(12, NONE);
        for (int[] one : aside) {
            x.grant(3, one[0], one[1], one[2], 1, 12);
            tells(x, KING, 12, "taker", 0, 0);
        }
        x.grant(7, 0, 1500, 1500, 1, 12);
        tells(x, 7, 12, "taker", 0, 0);
    }

    private static void sortsAndTwelfths() {
        says("3", " of SORTS (bits), so many TWELFTHS (1 .. 12).");
        within(ForfeitBook::new, 4, 0, 1023, "grant", 0, 0, 1500, 1500, 1, 1);
        within(ForfeitBook::new, 5, 1, 12, "grant", 0, 0, 1500, 1500, 1, 1);
        for (int sort = 0; sort <= 9; sort++) {
            ForfeitBook x = new ForfeitBook();
            x.thing(STANDING, sort, 12, NONE);
            x.text(1000, 1, true, 0);
            die(x, FELL, 0, 0, SURE);
            x.grant(0, 0, 1500, 1500, 0, 12);
            x.grant(1, 0, 1500, 1500, 1023 - (1 << sort), 12);
            tells(x, KING, 12, "taker", 0, 0);
            x.grant(2, 0, 1500, 1500, 1 << sort, sort + 1);
            tells(x, 2, sort + 1, "taker", 0, 0);
        }
    }

    private static void firstGrant() {
        says("3", "TAKER of a forfeit THING: of GRANTS for PLACE, YEAR and its SORT the one told first");
        ForfeitBook x = fallen(12, NONE);
        for (int g = 0; g < 8; g++) {
            x.grant(g, 1, 1500, 1500, 1, 12);
        }
        x.grant(6, 0, 1500, 1500, 1, 1);
        x.grant(5, 0, 1500, 1500, 1, 12);
        tells(x, 6, 1, "taker", 0, 0);
        tells(x, 1, 1, "takes", 6, 1500, 1500);
        tells(x, 0, 0, "takes", 5, 1500, 1500);
        tells(x, 1, 11, "takes", KING, 1500, 1500);
    }

    private static void shares(int worth, int twelfths, int lords, int kings) {
        ForfeitBook x = fallen(worth, NONE);
        x.grant(0, 0, 1500, 1500, 1, twelfths);
        tells(x, 0, lords, "taker", 0, 0);
        tells(x, lords > 0 ? 1 : 0, lords, "takes", 0, 1500, 1500);
        tells(x, kings > 0 ? 1 : 0, kings, "takes", KING, 1500, 1500);
    }

    private static void twelfthsCut() {
        says("3", "; of its PRICE he takes the TWELFTHS, cut, the KING (9) what is left (all, if there is no such"
            + " GRANT).");
        shares(11, 1, 0, 11);
        shares(12, 1, 1, 11);
        shares(13, 1, 1, 12);
        shares(1, 11, 0, 1);
        shares(1, 12, 1, 0);
        shares(0, 12, 0, 0);
        shares(10000, 11, 9166, 834);
        shares(10000, 12, 10000, 0);
        ForfeitBook x = fallen(10000, NONE);
        tells(x, KING, 10000, "taker", 0, 0);
        tells(x, 1, 10000, "takes", KING, 1500, 1500);
        ForfeitBook most = new ForfeitBook();
        for (int t = 0; t < 20; t++) {
            most.thing(STANDING, t == 0 ? 9 : 0, 10000, t == 0 ? NONE : 0);
        }
        most.text(1000, 1, true, 0);
        die(most, FELL, 0, 0, SURE);
        most.grant(7, 0, 1500, 1500, 1 << 9, 11);
        tells(most, 7, 183333, "taker", 0, 0);
        tells(most, 1, 16667, "takes", KING, 1500, 1500);
    }

    private static void dueReadingAndText() {
        says("3", "All by the DUE READING and the TEXT IN FORCE.");
        ForfeitBook x = things(STANDING, 2);
        x.text(1500, 1, true, 0);
        x.text(1501, 1, true, 1);
        die(x, FELL, 0, 0, DOUBTFUL, FELL, 1, 0, SURE);
        keeps(x, NONE, "taker", 0, 0);
        tells(x, KING, 1, "taker", 0, 1);
        x.text(1500, 1, true, 1);
        keeps(x, NONE, "taker", 0, 1);
        tells(x, 0, 0, "takes", KING, 1000, 1900);
    }

    private static void changeForAllYears() {
        says("4", "A CHANGE: a TEXT (RULE, STOOD, free SORTS) instead of all there are, for all YEARS.");
        ForfeitBook x = things(STANDING, 1);
        x.text(1500, 1, true, 0);
        int[] years = {1000, 1499, 1500, 1900};
        for (int d = 0; d < 4; d++) {
            x.death(0, years[d], NONE);
            x.act(d, FELL, 0, 0, true);
        }
        tells(x, 2, 0b0011, "otherwise", 1, STOOD, 0);
        tells(x, 2, 0b1100, "otherwise", 1, MOVED, 0);
        tells(x, 2, 0b1100, "freed", 0, STOOD, 1);
        tells(x, 1, 2, "shift", 1, STOOD, 0, 10);
        tells(x, 1, -2, "shift", 3, MOVED, 0, 10);
        answers(x, 1, "count", 3);
        Supplier<ForfeitBook> fresh = () -> x;
        for (String name : new String[] {"otherwise", "freed", "shift"}) {
            within(fresh, 0, 0, 3, name, 0, STOOD, 0, 0);
            within(fresh, 2, 0, 1023, name, 0, STOOD, 0, 0);
        }
    }

    private static void otherwise() {
        says("4", "OTHERWISE are DEATHS of which what is forfeit in the DUE READING (by each its own) is another set.");
        ForfeitBook x = new ForfeitBook();
        x.thing(STANDING, 0, 0, NONE);
        x.thing(STANDING, 1, 0, 0);
        x.text(1000, 1, true, 0);
        int d = die(x, FELL, 0, 0, DOUBTFUL, FELL, 1, 0, SURE);
        tells(x, 0, 0, "otherwise", 1, STOOD, 0);
        tells(x, 1, 1, "otherwise", 0, STOOD, 0);
        tells(x, 1, 1, "otherwise", 1, MOVED, 0);
        tells(x, 0, 0, "otherwise", 1, STOOD, 1);
        tells(x, 1, 1, "otherwise", 1, STOOD, 2);
        Check.due("the VALUES are alike", x.value(d, 0), 0);
        ForfeitBook none = new ForfeitBook();
        tells(none, 0, 0, "otherwise", 0, MOVED, 0);
        die(none);
        tells(none, 0, 0, "otherwise", 3, STOOD, 1023);
    }

    private static void freed() {
        says("4", "FREED are DEATHS in which something was forfeit (DUE READING), and nothing is.");
        ForfeitBook x = new ForfeitBook();
        x.thing(STANDING, 0, 0, NONE);
        x.thing(STANDING, 9, 0, NONE);
        x.text(1000, 1, true, 0);
        die(x, FELL, 0, 0, SURE);
        die(x, FELL, 0, 0, SURE, FELL, 1, 0, SURE);
        die(x, FELL, 0, 0, SURE, FELL, 1, 0, DOUBTFUL);
        die(x, FELL, 0, 0, DOUBTFUL);
        die(x);
        tells(x, 0, 0, "freed", 1, STOOD, 0);
        tells(x, 2, 0b00101, "freed", 1, STOOD, 1);
        tells(x, 0, 0, "freed", 1, STOOD, 1 << 9);
        tells(x, 3, 0b00111, "freed", 1, STOOD, 1 << 9 | 1);
        tells(x, 3, 0b00111, "freed", 1, STOOD, 1023);
        tells(x, 3, 0b00111, "freed", 3, MOVED, 0);
    }

    /** By DEATHS that tell every RULE, and whether what STOOD counts, apart; 4 is the only THING of SORT 8. */
    private static ForfeitBook telltale(int rule, boolean stood) {
        ForfeitBook x = new ForfeitBook();
        x.thing(BEAST, 0, 1, NONE);
        x.thing(THING, 1, 1, NONE);
        x.thing(THING, 2, 1, 1);
        x.thing(STANDING, 3, 1, NONE);
        x.thing(BEAST, 8, 1, NONE);
        x.text(1000, rule, stood, 0);
        die(x, GOES, 0, 0, SURE, MOVES, 0, 1, SURE, STRIKES, 2, 0, SURE);
        die(x, GOES, 0, 0, SURE, MOVES, 0, 2, SURE, STRIKES, 2, 0, SURE);
        die(x, FELL, 3, 0, SURE, GOES, 0, 0, SURE, STRIKES, 0, 0, SURE);
        die(x, GOES, 4, 0, SURE, STRIKES, 4, 0, SURE);
        die(x);
        return x;
    }

    private static void leastChange() {
        says("4", "THE LEAST CHANGE that frees one SORT: of all CHANGES by RULES 0 to 3, STOOD 0, 1,");
        for (int rule = 0; rule <= 3; rule++) {
            for (int stood = 0; stood <= 1; stood++) {
                ForfeitBook x = telltale(rule, stood == 1);
                keeps(x, 100 * rule + 10 * stood, "leastChange", 9, 0);
                keeps(x, 100 * rule + 10 * stood + 1, "leastChange", 8, 0);
            }
        }
    }

    private static void leastChangeAsTold() {
        says("4", " and free SORTS as told, with that SORT or without it,");
        ForfeitBook x = telltale(3, true);
        keeps(x, 310, "leastChange", 9, 1 << 9);
        keeps(x, 311, "leastChange", 8, 1 << 8);
        keeps(x, 310, "leastChange", 9, 1 << 7);
        keeps(x, 311, "leastChange", 8, 1 << 9);
        keeps(x, NONE, "leastChange", 9, 1);
        keeps(x, NONE, "leastChange", 9, 1023);
        keeps(x, NONE, "leastChange", 8, 1 << 3);
    }

    private static void leastChangeNeedsAllAndNoOther() {
        says("4", " those by which just the DEATHS are FREED of which all that is forfeit now is of that SORT, and no"
            + " others are OTHERWISE");
        ForfeitBook x = things(STANDING, 2);
        x.thing(STANDING, 1, 1, NONE);
        x.text(1000, 1, true, 0);
        keeps(x, 0, "leastChange", 0, 0);
        die(x);
        keeps(x, 0, "leastChange", 0, 0);
        die(x, FELL, 0, 0, SURE, FELL, 1, 0, SURE);
        keeps(x, 0, "leastChange", 0, 0);
        keeps(x, 10, "leastChange", 1, 0);
        die(x, FELL, 2, 0, SURE);
        keeps(x, 11, "leastChange", 0, 0);
        keeps(x, 11, "leastChange", 1, 0);
        keeps(x, 10, "leastChange", 2, 0);
        die(x, FELL, 0, 0, SURE, FELL, 2, 0, SURE);
        keeps(x, NONE, "leastChange", 0, 0);
        keeps(x, NONE, "leastChange", 1, 0);
        keeps(x, 10, "leastChange", 2, 0);
    }

    private static void leastChangeInOrder() {
        says("4", ": the first (by RULE, then STOOD, then without the SORT ahead).");
        ForfeitBook x = things(BEAST, 1);
        x.thing(STANDING, 1, 1, NONE);
        x.text(1000, 3, true, 0);
        die(x, GOES, 0, 0, SURE, STRIKES, 0, 0, SURE);
        keeps(x, 0, "leastChange", 2, 0);
        keeps(x, 1, "leastChange", 0, 0);
        die(x, FELL, 1, 0, SURE);
        keeps(x, 10, "leastChange", 2, 0);
        keeps(x, 11, "leastChange", 0, 0);
        keeps(x, 0, "leastChange", 1, 0);
        lastDeathOfTwelve();
    }

    /** The last DEATH alone tells the first CHANGE from what it needs. */
    private static void lastDeathOfTwelve() {
        ForfeitBook x = things(STANDING, 1);
        x.thing(STANDING, 1, 1, NONE);
        x.text(1000, 1, true, 0);
        for (int d = 0; d < 11; d++) {
            die(x, FELL, 0, 0, SURE);
        }
        keeps(x, 0, "leastChange", 0, 0);
        die(x, FELL, 1, 0, SURE);
        keeps(x, 11, "leastChange", 0, 0);
        keeps(x, 11, "leastChange", 1, 0);
    }
}
