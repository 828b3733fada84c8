import java.io.IOException;
import java.util.function.Supplier;

/** The boundaries that the document's terms 1 and 2 name: rows, things, deaths, acts, readings, texts. */
public final class TermsBoundaryTest extends Boundary {
    public static void main(String[] args) throws IOException {
        open(args);
        rows();
        twentyThings();
        kinds();
        sortsAndWorths();
        wholeToldAhead();
        top();
        onOneAtMost();
        price();
        twelveDeaths();
        placeYearWorth();
        tenActs();
        tenActsOfTheTwelfthDeath();
        fiveDoubtful();
        reading();
        readings0And31();
        whatGoes();
        whatIsMoved();
        takenAlong();
        hit();
        toBlame();
        blameUpwards();
        TextsTerms.all();
        end("1", "2");
    }

    private static void rows() {
        says("1", "ROWS 0 .. 5 are rows of 0 to 40 ints, or missing (at first).");
        ForfeitBook x = new ForfeitBook();
        for (int r = 0; r <= 5; r++) {
            finds(x, NOTHING, "tear", r);
            answers(x, 0, "row", r, 0);
            answers(x, 40, "row", r, 40);
        }
        answers(x, 6, "count", 5);
        within(ForfeitBook::new, 0, 0, 5, "row", 0, 1);
        bad(x, "row", 0, 41);
    }

    private static void twentyThings() {
        says("1", "THINGS 0, 1, .. (20 at most)");
        ForfeitBook x = new ForfeitBook();
        for (int t = 0; t < 20; t++) {
            answers(x, t, "thing", THING, 0, 0, NONE);
        }
        full(x, "thing", THING, 0, 0, NONE);
        full(x, "thing", STANDING, 9, 10000, 19);
        answers(x, 20, "count", 0);
    }

    private static void kinds() {
        says("1", "are of a KIND: 0 THING, 1 BEAST (a THING: it may go of itself), 2 ENGINE (a BEAST, too, that is"
            + " driven), 3 STANDING (a THING that does not move)");
        within(ForfeitBook::new, 0, THING, STANDING, "thing", 0, 0, 0, NONE);
        int[] movesOfItself = {0, 1, 1, 0};
        int[] isMoved = {1, 1, 1, 0};
        for (int kind = THING; kind <= STANDING; kind++) {
            ForfeitBook x = things(kind, 1);
            addThings(x, BEAST, 1);
            tells(x, 1, kind, "told", 0, 0);
            tells(x, movesOfItself[kind], movesOfItself[kind], "moving", die(x, GOES, 0, 0, SURE), 0);
            int d = die(x, GOES, 1, 0, SURE, MOVES, 1, 0, SURE);
            tells(x, 1 + isMoved[kind], 2 | isMoved[kind], "moving", d, 0);
        }
    }

    private static void sortsAndWorths() {
        says("1", "; each of a SORT 0 .. 9 with a WORTH of its own (0 .. 10000 pence)");
        within(ForfeitBook::new, 1, 0, 9, "thing", 0, 0, 0, NONE);
        within(ForfeitBook::new, 2, 0, 10000, "thing", 0, 0, 0, NONE);
        ForfeitBook x = new ForfeitBook();
        x.thing(THING, 0, 10000, NONE);
        x.thing(THING, 9, 0, NONE);
        tells(x, 1, 0, "told", 0, 1);
        tells(x, 1, 10000, "told", 0, 2);
        tells(x, 1, 9, "told", 1, 1);
        tells(x, 1, 0, "told", 1, 2);
    }

    private static void wholeToldAhead() {
        says("1", ", perhaps a PART of a WHOLE (a THING told ahead).");
        ForfeitBook x = new ForfeitBook();
        bad(x, "thing", THING, 0, 0, 0);
        answers(x, 0, "thing", THING, 0, 0, NONE);
        bad(x, "thing", THING, 0, 0, 1);
        answers(x, 1, "thing", THING, 0, 0, 0);
        bad(x, "thing", THING, 0, 0, 2);
        withinOrNone(() -> things(THING, 19), 3, 0, 18, "thing", THING, 0, 0, 0);
    }

    /** Twenty THINGS, each a PART of the one ahead. */
    private static ForfeitBook nested(int kindOfFirst, int worth) {
        ForfeitBook x = new ForfeitBook();
        for (int t = 0; t < 20; t++) {
            x.thing(t == 0 ? kindOfFirst : THING, t % 10, worth, t == 0 ? NONE : t - 1);
        }
        return x;
    }

    private static void top() {
        says("1", "TOP of a THING: the WHOLE of its WHOLE, and so on, itself if it has none.");
        ForfeitBook x = nested(THING, 1);
        for (int t = 0; t < 20; t++) {
            tells(x, 1, 0, "told", t, 4);
        }
        ForfeitBook alone = things(THING, 20);
        tells(alone, 1, 0, "told", 0, 4);
        tells(alone, 1, 19, "told", 19, 4);
    }

    private static void onOneAtMost() {
        says("1", "A THING may lie ON another one (each ON one at most; no THING ON itself by way of others, WHOLES"
            + " aside).");
        ForfeitBook x = things(THING, 20);
        answers(x, NONE, "on", 0, 1);
        answers(x, 1, "on", 0, 2);
        tells(x, 1, 2, "told", 0, 6);
        answers(x, NONE, "on", 1, 0);
        for (int t = 2; t < 19; t++) {
            answers(x, NONE, "on", t, t + 1);
        }
        for (int t = 0; t < 19; t++) {
            state(x, "on", 19, t);
        }
        bad(x, "on", 19, 19);
        ForfeitBook parts = nested(THING, 1);
        answers(parts, NONE, "on", 0, 19);
        answers(parts, 19, "on", 0, NONE);
        answers(parts, NONE, "on", 19, 0);
    }

    private static void price() {
        says("1", "PRICE of a THING: its WORTH and those of all its PARTS, and theirs.");
        ForfeitBook x = nested(THING, 10000);
        for (int t = 0; t < 20; t++) {
            tells(x, 1, 10000 * (20 - t), "told", t, 5);
        }
        ForfeitBook alone = new ForfeitBook();
        alone.thing(THING, 0, 0, NONE);
        tells(alone, 1, 0, "told", 0, 5);
        ForfeitBook flat = new ForfeitBook();
        flat.thing(THING, 0, 0, NONE);
        for (int t = 1; t < 20; t++) {
            flat.thing(THING, 0, 10000, 0);
            flat.on(t, t - 1 == 0 ? NONE : t - 1);
        }
        tells(flat, 1, 190000, "told", 0, 5);
        tells(flat, 1, 10000, "told", 1, 5);
    }

    private static void twelveDeaths() {
        says("1", "DEATHS 0, 1, .. (12 at most)");
        ForfeitBook x = new ForfeitBook();
        for (int d = 0; d < 12; d++) {
            answers(x, d, "death", 0, 1500, NONE);
        }
        full(x, "death", 0, 1500, NONE);
        answers(x, 12, "count", 1);
    }

    private static void placeYearWorth() {
        says("1", ": in a PLACE 0 .. 7, in a YEAR 1000 .. 1900, with what a jury told that what is forfeit is worth (0"
            + " .. 100000; NONE: a gap).");
        within(ForfeitBook::new, 0, 0, 7, "death", 0, 1500, 0);
        within(ForfeitBook::new, 1, 1000, 1900, "death", 0, 1500, 0);
        withinOrNone(ForfeitBook::new, 2, 0, 100000, "death", 0, 1500, 0);
        answers(new ForfeitBook(), 0, "death", 0, 1500, NONE);
    }

    private static void tenActs() {
        says("1", "ACTS of a DEATH (10 at most): 0 GOES a; 1 a MOVES b; 2 a STRIKES (the one who dies); 3 he FELL from"
            + " a");
        Supplier<ForfeitBook> fresh = () -> {
            ForfeitBook x = things(THING, 2);
            die(x);
            return x;
        };
        within(fresh, 1, GOES, FELL, "act", 0, 0, 0, 1, SURE);
        ForfeitBook x = fresh.get();
        for (int k = 0; k < 10; k++) {
            answers(x, k + 1, "act", 0, k % 4, 0, 1, SURE);
        }
        for (int sort = GOES; sort <= FELL; sort++) {
            full(x, "act", 0, sort, 0, 1, SURE);
            full(x, "act", 0, sort, 0, 1, DOUBTFUL);
        }
        tells(x, 1, 10, "deathTold", 0, 3);
    }

    /** In a book that is full of all, nothing stands behind the last ACT, and no GRANT behind the last. */
    private static void tenActsOfTheTwelfthDeath() {
        says("1", "ACTS of a DEATH (10 at most)");
        ForfeitBook x = fullBook();
        tells(x, 0, 0, "moving", 11, 31);
        tells(x, 0, 0, "blame", 11, 31);
        tells(x, 100000, 1023, "value", 11, 31);
        tells(x, 5, 0b0101010101, "sure", 11, 0);
        tells(x, 10, 1023, "sure", 11, 1);
        tells(x, 50000, 0, "due", 11);
        keeps(x, 32, "unlike", 11);
        tells(x, 1, 16, "settle", 11);
        keeps(x, 12, "mark", 3, STANDING);
        tells(x, KING, 10000, "taker", 11, 8);
        tells(x, 1, 50000, "takes", KING, 1889, 1889);
        tells(x, 12, 4095, "freed", 3, MOVED, 1023);
        fill(x, 5, GOES, 9, 0, SURE, MOVES, 9, 0, SURE, MOVES, 0, 1, SURE, MOVES, 1, 2, SURE, MOVES, 2, 4, SURE,
            MOVES, 4, 5, SURE, MOVES, 5, 6, SURE, MOVES, 6, 8, SURE, MOVES, 8, 10, SURE, STRIKES, 10, 0, SURE);
        answers(x, 10, "acts", 11, 5);
        tells(x, 9, 0b11101110111, "moving", 11, 0);
        tells(x, 9, 0b11101110111, "blame", 11, 0);
    }

    private static void fiveDoubtful() {
        says("1", "; each is sure, or doubtful (5 doubtful ones at most).");
        ForfeitBook x = things(THING, 2);
        die(x);
        for (int k = 0; k < 5; k++) {
            answers(x, k + 1, "act", 0, STRIKES, 0, 0, DOUBTFUL);
        }
        full(x, "act", 0, STRIKES, 0, 0, DOUBTFUL);
        answers(x, 6, "act", 0, STRIKES, 0, 0, SURE);
        full(x, "act", 0, STRIKES, 0, 0, DOUBTFUL);
        tells(x, 1, 5, "deathTold", 0, 4);
        tells(x, 1, 32, "deathTold", 0, 5);
    }

    private static void reading() {
        says("2", "A READING of a DEATH: bits for its doubtful ACTS, as they were told");
        ForfeitBook x = things(BEAST, 10);
        die(x, GOES, 0, 0, DOUBTFUL, GOES, 1, 0, SURE, GOES, 2, 0, DOUBTFUL, GOES, 3, 0, SURE, GOES, 4, 0, DOUBTFUL,
            GOES, 5, 0, SURE, GOES, 6, 0, DOUBTFUL, GOES, 7, 0, SURE, GOES, 8, 0, DOUBTFUL, GOES, 9, 0, SURE);
        int sure = 0b1010101010;
        for (int doubt = 0; doubt < 5; doubt++) {
            tells(x, 6, sure | 1 << 2 * doubt, "moving", 0, 1 << doubt);
        }
        bad(x, "moving", 0, 32);
    }

    private static void readings0And31() {
        says("2", ": those of which the bit is 1 were so (sure ones always).");
        ForfeitBook x = things(BEAST, 10);
        die(x);
        for (int k = 0; k < 10; k++) {
            x.act(0, GOES, k, 0, k >= 5);
        }
        tells(x, 5, 0b1111100000, "moving", 0, 0);
        tells(x, 10, 0b1111111111, "moving", 0, 31);
        tells(x, 9, 0b1111101111, "moving", 0, 15);
        ForfeitBook sure = things(BEAST, 1);
        die(sure, GOES, 0, 0, SURE);
        tells(sure, 1, 1, "moving", 0, 0);
        bad(sure, "moving", 0, 1);
    }

    private static void whatGoes() {
        says("2", "MOVING in a READING is as little as can be, so that: a THING of which it was so that it GOES is"
            + " MOVING, if it is a BEAST (ENGINE)");
        for (int kind = THING; kind <= STANDING; kind++) {
            ForfeitBook x = things(kind, 20);
            boolean may = kind == BEAST || kind == ENGINE;
            tells(x, may ? 2 : 0, may ? 1 << 19 | 1 : 0, "moving", die(x, GOES, 0, 0, SURE, GOES, 19, 0, SURE), 0);
            tells(x, 0, 0, "moving", die(x), 0);
            tells(x, 0, 0, "moving", die(x, MOVES, 0, 1, SURE, MOVES, 1, 0, SURE, STRIKES, 0, 0, SURE), 0);
        }
    }

    private static void whatIsMoved() {
        says("2", "; if a is MOVING, and it was so that a MOVES b, b is, if it is not STANDING");
        ForfeitBook x = new ForfeitBook();
        for (int t = 0; t < 10; t++) {
            x.thing(t == 9 ? BEAST : THING, 0, 0, NONE);
        }
        die(x);
        for (int t = 0; t < 9; t++) {
            x.act(0, MOVES, t + 1, t, true);
        }
        tells(x, 0, 0, "moving", 0, 0);
        x.act(0, GOES, 9, 0, true);
        tells(x, 10, 1023, "moving", 0, 0);
        x.thing(STANDING, 0, 0, NONE);
        int d = die(x, GOES, 9, 0, SURE, MOVES, 9, 10, SURE, MOVES, 10, 0, SURE);
        tells(x, 1, 1 << 9, "moving", d, 0);
        d = die(x, GOES, 9, 0, SURE, MOVES, 9, 0, DOUBTFUL);
        tells(x, 1, 1 << 9, "moving", d, 0);
        tells(x, 2, 1 << 9 | 1, "moving", d, 1);
    }

    private static void takenAlong() {
        says("2", "; with a THING are MOVING all its PARTS, and all that lies ON it, if these are not STANDING.");
        ForfeitBook deep = nested(ENGINE, 0);
        tells(deep, 20, (1 << 20) - 1, "moving", die(deep, GOES, 0, 0, SURE), 0);
        ForfeitBook heap = things(BEAST, 20);
        for (int t = 0; t < 19; t++) {
            heap.on(t, t + 1);
        }
        tells(heap, 20, (1 << 20) - 1, "moving", die(heap, GOES, 19, 0, SURE), 0);
        tells(heap, 1, 1, "moving", die(heap, GOES, 0, 0, SURE), 0);
        heap.on(17, NONE);
        tells(heap, 2, 3 << 18, "moving", 0, 0);
        heap.on(17, 19);
        heap.on(18, NONE);
        tells(heap, 19, (1 << 20) - 1 - (1 << 18), "moving", 0, 0);
        ForfeitBook x = things(BEAST, 1);
        x.thing(STANDING, 0, 0, 0);
        x.thing(THING, 0, 0, 1);
        x.thing(STANDING, 0, 0, NONE);
        x.thing(THING, 0, 0, NONE);
        x.on(3, 0);
        x.on(4, 3);
        tells(x, 1, 1, "moving", die(x, GOES, 0, 0, SURE), 0);
    }

    private static void hit() {
        says("2", "HIT are the THINGS of which it was so that they STRIKE, or that he FELL from them.");
        ForfeitBook x = things(THING, 20);
        x.text(1500, 1, true, 0);
        tells(x, 2, 1 << 19 | 1, "forfeit", die(x, STRIKES, 0, 0, SURE, FELL, 19, 0, SURE), 0, 0);
        tells(x, 1, 1, "forfeit", die(x, STRIKES, 0, 0, SURE, FELL, 0, 0, SURE), 0, 0);
        tells(x, 0, 0, "forfeit", die(x, GOES, 0, 0, SURE, MOVES, 0, 1, SURE), 0, 0);
        int d = die(x, FELL, 19, 0, DOUBTFUL);
        tells(x, 0, 0, "forfeit", d, 0, 0);
        tells(x, 1, 1 << 19, "forfeit", d, 1, 0);
    }

    private static void toBlame() {
        says("2", "TO BLAME is as little as can be, so that: what is HIT and MOVING is; if b is, and it was so that a"
            + " MOVES b, and a is MOVING, a is");
        ForfeitBook x = new ForfeitBook();
        addThings(x, BEAST, 1);
        addThings(x, THING, 9);
        tells(x, 0, 0, "blame", die(x), 0);
        tells(x, 0, 0, "blame", die(x, STRIKES, 0, 0, SURE), 0);
        tells(x, 0, 0, "blame", die(x, GOES, 0, 0, SURE, STRIKES, 1, 0, SURE), 0);
        tells(x, 1, 1, "blame", die(x, GOES, 0, 0, SURE, STRIKES, 0, 0, SURE, MOVES, 0, 1, SURE), 0);
        int d = die(x, STRIKES, 8, 0, SURE);
        for (int t = 7; t >= 0; t--) {
            x.act(d, MOVES, t, t + 1, true);
        }
        tells(x, 0, 0, "blame", d, 0);
        x.act(d, GOES, 0, 0, true);
        tells(x, 9, 0b111111111, "blame", d, 0);
        d = die(x, GOES, 0, 0, SURE, MOVES, 0, 1, SURE, MOVES, 9, 1, SURE, STRIKES, 1, 0, SURE);
        tells(x, 2, 3, "blame", d, 0);
        d = die(x, GOES, 0, 0, SURE, MOVES, 0, 1, SURE, MOVES, 1, 0, SURE, STRIKES, 0, 0, SURE);
        tells(x, 2, 3, "blame", d, 0);
        d = die(x, MOVES, 0, 1, SURE, GOES, 0, 0, SURE, STRIKES, 1, 0, SURE, MOVES, 0, 2, SURE, MOVES, 2, 1, DOUBTFUL);
        tells(x, 2, 3, "blame", d, 0);
        tells(x, 3, 7, "blame", d, 1);
    }

    private static void blameUpwards() {
        says("2", "; if a THING is, and its WHOLE is MOVING, that is; if it lies ON one that is MOVING, that is.");
        ForfeitBook deep = nested(ENGINE, 0);
        tells(deep, 20, (1 << 20) - 1, "blame", die(deep, GOES, 0, 0, SURE, STRIKES, 19, 0, SURE), 0);
        tells(deep, 1, 1, "blame", die(deep, GOES, 0, 0, SURE, STRIKES, 0, 0, SURE), 0);
        ForfeitBook heap = things(BEAST, 20);
        for (int t = 0; t < 19; t++) {
            heap.on(t, t + 1);
        }
        tells(heap, 20, (1 << 20) - 1, "blame", die(heap, GOES, 19, 0, SURE, STRIKES, 0, 0, SURE), 0);
        tells(heap, 1, 1, "blame", die(heap, GOES, 0, 0, SURE, STRIKES, 0, 0, SURE), 0);
        ForfeitBook still = things(THING, 1);
        still.thing(BEAST, 0, 0, 0);
        still.thing(STANDING, 0, 0, NONE);
        still.on(1, 2);
        tells(still, 1, 2, "blame", die(still, GOES, 1, 0, SURE, STRIKES, 1, 0, SURE), 0);
    }
}
