import java.io.IOException;
import java.util.function.Supplier;

/** The boundaries that promises 26 to 36 name: juries, grants, changes. */
public final class JuriesBoundaryTest extends Boundary {
    public static void main(String[] args) throws IOException {
        open(args);
        jury();
        juryRefused();
        habit();
        habitRefused();
        habitOfNone();
        worstPlace();
        worstPlaceOfAlike();
        worstPlaceOfNone();
        yearsRefused("Promise 28", "BAD.", "worstPlace");
        shortfall();
        shortfallBelow0();
        yearsRefused("Promise 29", "BAD.", "shortfall");
        grant();
        grantRefused();
        grantFull();
        taker();
        takerOfNone();
        takerRefused();
        takes();
        takesNothing();
        takesRefused();
        otherwise();
        changeRefused("Promise 33", "otherwise");
        freed();
        changeRefused("Promise 34", "freed");
        shift();
        shiftOfASort();
        shiftRefused();
        leastChange();
        leastChangeOfNone();
        leastChangeRefused();
        end(promises(26, 36));
    }

    /** THING 0 of 10000 pence in all, 1 of nothing, both STANDING; what STOOD counts from 1000 on. */
    private static ForfeitBook book() {
        ForfeitBook x = new ForfeitBook();
        x.thing(STANDING, 0, 10000, NONE);
        x.thing(STANDING, 9, 0, NONE);
        x.text(1000, 1, true, 0);
        return x;
    }

    private static int fell(ForfeitBook x, int place, int year, int told, int t) {
        int d = x.death(place, year, told);
        x.act(d, FELL, t, 0, true);
        return d;
    }

    /** Twelve DEATHS in PLACE 0, of the years 1500 to 1511, each of the most that can be DUE: 200000. */
    private static ForfeitBook dearest(int told) {
        ForfeitBook x = new ForfeitBook();
        for (int t = 0; t < 20; t++) {
            x.thing(STANDING, 0, 10000, t == 0 ? NONE : 0);
        }
        x.text(1000, 1, true, 0);
        for (int d = 0; d < 12; d++) {
            fell(x, 0, 1500 + d, told, 0);
        }
        return x;
    }

    private static void yearsRefused(String promise, String words, String name) {
        says(promise, words);
        Supplier<ForfeitBook> fresh = JuriesBoundaryTest::book;
        within(fresh, 0, 1000, 1900, name, 1500, 1900);
        within(fresh, 0, 1000, 1500, name, 1500, 1500);
        within(fresh, 1, 1000, 1900, name, 1000, 1500);
        within(fresh, 1, 1500, 1900, name, 1500, 1500);
        bad(book(), name, 1900, 1000);
    }

    private static void jury() {
        says("Promise 26", "The told worth of a DEATH becomes v (NONE: a gap): what it was.");
        ForfeitBook x = book();
        for (int d = 0; d < 12; d++) {
            x.death(0, 1500, d);
        }
        quiet(x, 11, "jury", 11, 100000);
        quiet(x, 100000, "jury", 11, 0);
        quiet(x, 0, "jury", 11, NONE);
        quiet(x, NONE, "jury", 11, NONE);
        quiet(x, NONE, "jury", 11, 100000);
        tells(x, 1, 100000, "deathTold", 11, 2);
        tells(x, 1, 0, "deathTold", 0, 2);
        tells(x, 1, 10, "deathTold", 10, 2);
    }

    private static void juryRefused() {
        says("Promise 26", "BAD.");
        ForfeitBook x = dearest(0);
        within(() -> x, 0, 0, 11, "jury", 0, 0);
        withinOrNone(() -> x, 1, 0, 100000, "jury", 0, 0);
        bad(x, "jury", 0, -8);
        bad(x, "jury", 0, -10);
        bad(book(), "jury", 0, 0);
    }

    private static void habit() {
        says("Promise 27", "CHANCE of the HABIT, told by upper(), lower(): 1 it is PAST CHANCE, 0 not.");
        ForfeitBook x = book();
        int[] answer = {0, 0, 0, 0, 1, 1, 1, 1, 1, 1, 1, 1};
        for (int d = 0; d < 12; d++) {
            fell(x, 7, 1500, 4999, 0);
            x.told(0, 2);
            tells(x, answer[d], 10000, "habit", 7, 1000, 1900);
            Check.due("upper() of " + (d + 1), x.upper(), 1);
            Check.due("lower() of " + (d + 1), x.lower(), 2 << d);
        }
        for (int d = 0; d < 12; d++) {
            x.jury(d, 5000);
            answers(x, d < 2 ? 1 : 0, "habit", 7, 1500, 1500);
        }
        Check.due("upper() of none that is CUT", x.upper(), 1);
        Check.due("lower() of none that is CUT", x.lower(), 1);
    }

    private static void habitRefused() {
        says("Promise 27", "BAD: years");
        ForfeitBook x = book();
        fell(x, 0, 1500, 0, 0);
        fell(x, 7, 1500, 0, 0);
        within(() -> x, 0, 0, 7, "habit", 0, 1500, 1500);
        within(() -> x, 1, 1000, 1500, "habit", 0, 1500, 1500);
        within(() -> x, 2, 1500, 1900, "habit", 0, 1500, 1500);
        bad(x, "habit", 0, 1501, 1500);
        bad(x, "habit", 0, 1900, 1000);
    }

    private static void habitOfNone() {
        says("Promise 27", "; NOUGHT.");
        ForfeitBook x = book();
        finds(x, NOUGHT, "habit", 0, 1000, 1900);
        fell(x, 0, 1500, 0, 1);
        fell(x, 0, 1500, NONE, 0);
        x.death(0, 1500, 0);
        fell(x, 1, 1500, 0, 0);
        finds(x, NOUGHT, "habit", 0, 1000, 1900);
        fell(x, 0, 1500, 100000, 0);
        finds(x, NOUGHT, "habit", 0, 1000, 1499);
        finds(x, NOUGHT, "habit", 0, 1501, 1900);
        answers(x, 0, "habit", 0, 1500, 1500);
        finds(x, NOUGHT, "habit", 2, 1000, 1900);
        Check.due("upper() after what was refused", x.upper(), 1);
    }

    private static void worstPlace() {
        says("Promise 28", "The PLACE with the least CHANCE from a YEAR to a YEAR");
        ForfeitBook x = book();
        fell(x, 0, 1500, 10000, 0);
        keeps(x, 0, "worstPlace", 1500, 1500);
        fell(x, 7, 1501, 0, 0);
        keeps(x, 7, "worstPlace", 1500, 1501);
        keeps(x, 0, "worstPlace", 1500, 1500);
        keeps(x, 7, "worstPlace", 1501, 1501);
        fell(x, 0, 1502, 0, 0);
        keeps(x, 7, "worstPlace", 1000, 1900);
        fell(x, 0, 1502, 0, 0);
        keeps(x, 0, "worstPlace", 1000, 1900);
        keeps(x, 0, "worstPlace", 1501, 1502);
    }

    private static void worstPlaceOfAlike() {
        says("Promise 28", ", the least of alike ones (those without such DEATHS aside)");
        ForfeitBook x = book();
        for (int place = 7; place >= 1; place--) {
            fell(x, place, 1500, 0, 0);
            keeps(x, place, "worstPlace", 1500, 1500);
        }
        fell(x, 0, 1500, 0, 1);
        fell(x, 0, 1500, NONE, 0);
        keeps(x, 1, "worstPlace", 1500, 1500);
        // 1 by 2 of one and 1 by 2 of three.
        fell(x, 0, 1500, 10000, 0);
        fell(x, 0, 1500, 0, 0);
        fell(x, 0, 1500, 0, 0);
        keeps(x, 0, "worstPlace", 1500, 1500);
    }

    private static void worstPlaceOfNone() {
        says("Promise 28", "; NONE: no PLACE has any.");
        ForfeitBook x = book();
        keeps(x, NONE, "worstPlace", 1000, 1900);
        fell(x, 0, 1500, 0, 1);
        fell(x, 7, 1500, NONE, 0);
        keeps(x, NONE, "worstPlace", 1000, 1900);
        fell(x, 7, 1500, 100000, 0);
        keeps(x, NONE, "worstPlace", 1000, 1499);
        keeps(x, NONE, "worstPlace", 1501, 1900);
        keeps(x, 7, "worstPlace", 1500, 1500);
    }

    private static void shortfall() {
        says("Promise 29", "By how much told worths are less than DUE in all");
        tells(new ForfeitBook(), 0, 0, "shortfall", 1000, 1900);
        tells(dearest(0), 12, 2400000, "shortfall", 1500, 1511);
        tells(dearest(100000), 12, 1200000, "shortfall", 1000, 1900);
        ForfeitBook x = dearest(0);
        tells(x, 11, 2200000, "shortfall", 1501, 1511);
        tells(x, 11, 2200000, "shortfall", 1500, 1510);
        tells(x, 1, 200000, "shortfall", 1511, 1511);
        tells(x, 0, 0, "shortfall", 1512, 1900);
    }

    private static void shortfallBelow0() {
        says("Promise 29", " (below 0: more), over DEATHS with a told worth from a YEAR to a YEAR, told by asked():"
            + " how many DEATHS.");
        ForfeitBook x = book();
        for (int d = 0; d < 12; d++) {
            fell(x, 0, 1500, 100000, 1);
        }
        tells(x, 12, -1200000, "shortfall", 1500, 1500);
        for (int d = 0; d < 12; d++) {
            x.jury(d, NONE);
            tells(x, 11 - d, -100000 * (11 - d), "shortfall", 1500, 1500);
        }
        x.jury(11, 0);
        tells(x, 1, 0, "shortfall", 1500, 1500);
    }

    private static void grant() {
        says("Promise 30", "A GRANT: how many there are.");
        ForfeitBook x = new ForfeitBook();
        for (int g = 0; g < 10; g++) {
            quiet(x, g + 1, "grant", g % 8, 7 - g % 8, 1000, g % 2 == 0 ? 1000 : 1900, g % 2 == 0 ? 0 : 1023, 1 + g);
        }
    }

    private static void grantRefused() {
        says("Promise 30", "BAD: years, bits, TWELFTHS");
        Supplier<ForfeitBook> fresh = ForfeitBook::new;
        within(fresh, 0, 0, 7, "grant", 0, 0, 1500, 1500, 0, 1);
        within(fresh, 1, 0, 7, "grant", 0, 0, 1500, 1500, 0, 1);
        within(fresh, 2, 1000, 1500, "grant", 0, 0, 1500, 1500, 0, 1);
        within(fresh, 2, 1000, 1900, "grant", 0, 0, 1500, 1900, 0, 1);
        within(fresh, 3, 1500, 1900, "grant", 0, 0, 1500, 1500, 0, 1);
        within(fresh, 3, 1000, 1900, "grant", 0, 0, 1000, 1500, 0, 1);
        within(fresh, 4, 0, 1023, "grant", 0, 0, 1500, 1500, 0, 1);
        within(fresh, 5, 1, 12, "grant", 0, 0, 1500, 1500, 0, 1);
        bad(new ForfeitBook(), "grant", KING, 0, 1500, 1500, 0, 1);
    }

    private static void grantFull() {
        says("Promise 30", "; FULL.");
        ForfeitBook x = new ForfeitBook();
        for (int g = 1; g <= 10; g++) {
            answers(x, g, "grant", 0, 0, 1500, 1500, 0, 1);
        }
        full(x, "grant", 0, 0, 1500, 1500, 0, 1);
        full(x, "grant", 7, 7, 1000, 1900, 1023, 12);
        bad(x, "grant", 7, 7, 1000, 1900, 1023, 13);
    }

    private static void taker() {
        says("Promise 31", "TAKER of a THING that is forfeit in a DEATH: the LORD, 9 the KING alone; what he takes by"
            + " asked()");
        ForfeitBook x = dearest(NONE);
        tells(x, KING, 200000, "taker", 11, 0);
        x.grant(7, 0, 1511, 1511, 1, 1);
        tells(x, 7, 16666, "taker", 11, 0);
        tells(x, KING, 200000, "taker", 10, 0);
        x.grant(0, 0, 1510, 1510, 1, 12);
        tells(x, 0, 200000, "taker", 10, 0);
        x.worth(0, 0);
        tells(x, 7, 15833, "taker", 11, 0);
        ForfeitBook poor = book();
        fell(poor, 0, 1500, NONE, 1);
        tells(poor, KING, 0, "taker", 0, 1);
        poor.grant(0, 0, 1500, 1500, 1 << 9, 12);
        tells(poor, 0, 0, "taker", 0, 1);
    }

    private static void takerOfNone() {
        says("Promise 31", "; NONE: it is not forfeit.");
        ForfeitBook x = dearest(NONE);
        x.told(0, 5);
        keeps(x, NONE, "taker", 0, 1);
        keeps(x, NONE, "taker", 0, 19);
        ForfeitBook none = things(STANDING, 1);
        die(none);
        die(none, FELL, 0, 0, SURE);
        keeps(none, NONE, "taker", 0, 0);
        keeps(none, NONE, "taker", 1, 0);
        none.text(1500, 1, true, 1);
        keeps(none, NONE, "taker", 1, 0);
        none.text(1500, 1, true, 0);
        tells(none, KING, 1, "taker", 1, 0);
    }

    private static void takerRefused() {
        says("Promise 31", "BAD.");
        ForfeitBook x = dearest(NONE);
        within(() -> x, 0, 0, 11, "taker", 0, 0);
        within(() -> x, 1, 0, 19, "taker", 0, 0);
        bad(book(), "taker", 0, 0);
        bad(new ForfeitBook(), "taker", 0, 0);
    }

    private static void takes() {
        says("Promise 32", "What a LORD (9: the KING) takes of all DEATHS from a YEAR to a YEAR, told by asked(): of"
            + " how many DEATHS.");
        ForfeitBook x = dearest(NONE);
        tells(x, 12, 2400000, "takes", KING, 1500, 1511);
        tells(x, 12, 2400000, "takes", KING, 1000, 1900);
        tells(x, 11, 2200000, "takes", KING, 1501, 1511);
        tells(x, 11, 2200000, "takes", KING, 1500, 1510);
        tells(x, 0, 0, "takes", KING, 1512, 1900);
        tells(x, 0, 0, "takes", KING, 1000, 1499);
        x.grant(7, 0, 1000, 1900, 1023, 1);
        tells(x, 12, 12 * 16666, "takes", 7, 1000, 1900);
        tells(x, 12, 12 * 183334, "takes", KING, 1000, 1900);
        tells(x, 1, 16666, "takes", 7, 1511, 1511);
        tells(x, 0, 0, "takes", 0, 1000, 1900);
        tells(new ForfeitBook(), 0, 0, "takes", KING, 1000, 1900);
    }

    private static void takesNothing() {
        says("Promise 32", "(Nothing of a DEATH does not count.)");
        ForfeitBook x = book();
        fell(x, 0, 1500, NONE, 1);
        tells(x, 0, 0, "takes", KING, 1500, 1500);
        x.worth(1, 1);
        tells(x, 1, 1, "takes", KING, 1500, 1500);
        x.grant(0, 0, 1500, 1500, 1 << 9, 11);
        tells(x, 0, 0, "takes", 0, 1500, 1500);
        tells(x, 1, 1, "takes", KING, 1500, 1500);
        x.worth(1, 2);
        tells(x, 1, 1, "takes", 0, 1500, 1500);
        ForfeitBook all = book();
        all.grant(0, 0, 1500, 1500, 1, 12);
        fell(all, 0, 1500, NONE, 0);
        tells(all, 0, 0, "takes", KING, 1500, 1500);
        tells(all, 1, 10000, "takes", 0, 1500, 1500);
        all.death(0, 1500, NONE);
        tells(all, 1, 10000, "takes", 0, 1500, 1500);
    }

    private static void takesRefused() {
        says("Promise 32", "BAD.");
        Supplier<ForfeitBook> fresh = () -> dearest(NONE);
        for (int lord = 0; lord <= 9; lord++) {
            if (lord == 8) bad(fresh.get(), "takes", lord, 1500, 1500);
            else answers(fresh.get(), lord == KING ? 1 : 0, "takes", lord, 1500, 1500);
        }
        for (int lord : new int[] {-1, 8, 10, NONE, 41, 265, MIN, MIN + 9, MAX}) {
            bad(fresh.get(), "takes", lord, 1500, 1500);
        }
        within(fresh, 1, 1000, 1500, "takes", 0, 1500, 1500);
        within(fresh, 2, 1500, 1900, "takes", KING, 1500, 1500);
        bad(fresh.get(), "takes", KING, 1501, 1500);
    }

    private static void changeRefused(String promise, String name) {
        says(promise, "BAD.");
        within(() -> dearest(NONE), 0, 0, 3, name, 0, STOOD, 0, 0);
        within(() -> dearest(NONE), 2, 0, 1023, name, 0, STOOD, 0, 0);
        within(ForfeitBook::new, 0, 0, 3, name, 0, MOVED, 0, 0);
        within(ForfeitBook::new, 2, 0, 1023, name, 0, MOVED, 0, 0);
    }

    private static void otherwise() {
        says("Promise 33", "A CHANGE: how many DEATHS are OTHERWISE; these by asked() (bits).");
        ForfeitBook x = dearest(NONE);
        tells(x, 0, 0, "otherwise", 1, STOOD, 0);
        tells(x, 12, 4095, "otherwise", 1, MOVED, 0);
        x.row(0, 0);
        x.acts(0, 0);
        tells(x, 11, 4094, "otherwise", 1, MOVED, 0);
        for (int d = 1; d < 11; d++) {
            x.acts(d, 0);
        }
        tells(x, 1, 1 << 11, "otherwise", 1, MOVED, 0);
        tells(new ForfeitBook(), 0, 0, "otherwise", 3, STOOD, 1023);
    }

    private static void freed() {
        says("Promise 34", "A CHANGE: how many DEATHS are FREED; these by asked() (bits).");
        ForfeitBook x = dearest(NONE);
        tells(x, 0, 0, "freed", 1, STOOD, 1022);
        tells(x, 12, 4095, "freed", 1, STOOD, 1023);
        tells(x, 12, 4095, "freed", 3, MOVED, 0);
        x.row(0, 0);
        for (int d = 0; d < 11; d++) {
            x.acts(d, 0);
        }
        tells(x, 1, 1 << 11, "freed", 3, MOVED, 0);
        x.acts(11, 0);
        tells(x, 0, 0, "freed", 3, MOVED, 1023);
        tells(new ForfeitBook(), 0, 0, "freed", 3, STOOD, 1023);
    }

    private static void shift() {
        says("Promise 35", "By how much VALUES of all DEATHS (DUE) are more by a CHANGE,");
        ForfeitBook x = dearest(NONE);
        tells(x, 1, 0, "shift", 1, STOOD, 0, 10);
        tells(x, 1, -2400000, "shift", 1, MOVED, 0, 10);
        x.text(1000, 1, false, 0);
        tells(x, 1, 0, "shift", 1, MOVED, 0, 10);
        tells(x, 1, 2400000, "shift", 1, STOOD, 0, 10);
        tells(x, 1, 2400000, "shift", 2, STOOD, 1022, 10);
        tells(x, 1, 0, "shift", 2, STOOD, 1023, 10);
        tells(new ForfeitBook(), 1, 0, "shift", 0, STOOD, 0, 10);
        ForfeitBook doubtful = things(STANDING, 1);
        die(doubtful, FELL, 0, 0, DOUBTFUL);
        tells(doubtful, 1, 0, "shift", 1, STOOD, 0, 10);
    }

    private static void shiftOfASort() {
        says("Promise 35", " of THINGS of a SORT (10: of all), told by asked(): 1.");
        ForfeitBook x = new ForfeitBook();
        for (int sort = 0; sort <= 9; sort++) {
            x.thing(STANDING, sort, 1 << sort, NONE);
        }
        die(x);
        for (int t = 0; t <= 9; t++) {
            x.act(0, FELL, t, 0, true);
        }
        for (int sort = 0; sort <= 9; sort++) {
            tells(x, 1, 1 << sort, "shift", 1, STOOD, 0, sort);
        }
        tells(x, 1, 1023, "shift", 1, STOOD, 0, 10);
        tells(x, 1, 511, "shift", 1, STOOD, 1 << 9, 10);
        tells(x, 1, 0, "shift", 1, STOOD, 1 << 9, 9);
    }

    private static void shiftRefused() {
        changeRefused("Promise 35", "shift");
        within(() -> dearest(NONE), 3, 0, 10, "shift", 0, STOOD, 0, 0);
        within(ForfeitBook::new, 3, 0, 10, "shift", 0, MOVED, 0, 0);
    }

    /** A BEAST of SORT 0 that strikes in one DEATH, and a STANDING THING of SORT 9 in another one. */
    private static ForfeitBook beastAndHouse(int rule) {
        ForfeitBook x = things(BEAST, 1);
        x.thing(STANDING, 9, 1, NONE);
        x.thing(THING, 5, 1, NONE);
        x.thing(THING, 5, 1, 2);
        x.text(1000, rule, true, 0);
        die(x, GOES, 0, 0, SURE, STRIKES, 0, 0, SURE);
        die(x, FELL, 1, 0, SURE);
        die(x, GOES, 0, 0, SURE, MOVES, 0, 3, SURE, STRIKES, 3, 0, SURE);
        return x;
    }

    private static void leastChange() {
        says("Promise 36", "THE LEAST CHANGE that frees a SORT, free SORTS as told: 100 times the RULE, 10 times"
            + " STOOD, and 1 with the SORT");
        keeps(beastAndHouse(0), 0, "leastChange", 9, 0);
        keeps(beastAndHouse(0), 11, "leastChange", 0, 0);
        keeps(beastAndHouse(0), 10, "leastChange", 8, 0);
        keeps(beastAndHouse(1), 100, "leastChange", 9, 0);
        keeps(beastAndHouse(1), 111, "leastChange", 0, 0);
        keeps(beastAndHouse(1), 110, "leastChange", 8, 0);
        keeps(beastAndHouse(2), 200, "leastChange", 9, 0);
        keeps(beastAndHouse(2), 210, "leastChange", 8, 0);
        keeps(beastAndHouse(3), 300, "leastChange", 9, 0);
        keeps(beastAndHouse(3), 310, "leastChange", 8, 1 << 8);
        keeps(new ForfeitBook(), 0, "leastChange", 0, 0);
        keeps(new ForfeitBook(), 0, "leastChange", 9, 1023);
        keeps(dearest(NONE), 0, "leastChange", 0, 0);
        keeps(dearest(NONE), 10, "leastChange", 9, 0);
    }

    private static void leastChangeOfNone() {
        says("Promise 36", "; NONE: there is none.");
        keeps(beastAndHouse(2), NONE, "leastChange", 0, 0);
        keeps(beastAndHouse(1), NONE, "leastChange", 9, 1);
        keeps(beastAndHouse(1), NONE, "leastChange", 8, 1023);
        keeps(dearest(NONE), NONE, "leastChange", 9, 1);
    }

    private static void leastChangeRefused() {
        says("Promise 36", "BAD.");
        within(() -> dearest(NONE), 0, 0, 9, "leastChange", 0, 0);
        within(() -> dearest(NONE), 1, 0, 1023, "leastChange", 0, 0);
        within(ForfeitBook::new, 0, 0, 9, "leastChange", 0, 0);
        within(ForfeitBook::new, 1, 0, 1023, "leastChange", 0, 0);
    }
}
