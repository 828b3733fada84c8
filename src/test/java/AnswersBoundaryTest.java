import java.io.IOException;

/** The boundaries that the document's answers name: what is refused, in which order, and how it is told. */
public final class AnswersBoundaryTest extends Boundary {
    public static void main(String[] args) throws IOException {
        open(args);
        the512thCall();
        badAheadOfFull();
        badAheadOfState();
        badAheadOfFindings();
        otherwiseSaid();
        none();
        refusedChangesNothing();
        refusedInANewObject();
        nothing();
        beyond();
        unlike();
        nought();
        sizes();
        fractions();
        sets();
        end("ANSWERS");
    }

    private static void the512thCall() {
        says("What it is", "An object is used for at most 512 calls after it has been made");
        ForfeitBook x = new ForfeitBook();
        x.row(5, 40);
        for (int n = 2; n <= 510; n++) {
            Check.due("call " + n, x.lay(5, 39, n), 1);
        }
        Check.due("call 511", x.lay(5, 39, MIN), 1);
        Check.due("call 512", x.asked(), 510);
        ForfeitBook y = new ForfeitBook();
        for (int n = 1; n <= 510; n++) {
            Check.due("call " + n, y.row(0, -n), FINDING);
        }
        Check.due("call 511", y.findings(SIZE), 510);
        Check.due("call 512", y.finding(), SIZE);
    }

    private static void badAheadOfFull() {
        says("ANSWERS", "Refused is, the first of these that fits, in this order: BAD -1 (a number that is none, or"
            + " not as told), FULL -2");
        ForfeitBook x = fullBook();
        full(x, "thing", THING, 0, 0, NONE);
        bad(x, "thing", 4, 0, 0, NONE);
        bad(x, "thing", THING, 10, 0, NONE);
        bad(x, "thing", THING, 0, 10001, NONE);
        bad(x, "thing", THING, 0, 0, 20);
        full(x, "death", 0, 1000, 0);
        bad(x, "death", 8, 1000, 0);
        bad(x, "death", 0, 999, 0);
        bad(x, "death", 0, 1000, 100001);
        full(x, "act", 11, GOES, 0, 0, SURE);
        bad(x, "act", 12, GOES, 0, 0, SURE);
        bad(x, "act", 11, 4, 0, 0, SURE);
        bad(x, "act", 11, GOES, 20, 0, SURE);
        bad(x, "act", 11, MOVES, 0, 0, SURE);
        bad(x, "act", 11, MOVES, 0, 20, DOUBTFUL);
        full(x, "text", 1000, 0, MOVED, 0);
        bad(x, "text", 999, 0, MOVED, 0);
        bad(x, "text", 1000, 4, MOVED, 0);
        bad(x, "text", 1000, 0, MOVED, 1024);
        full(x, "grant", 0, 0, 1000, 1000, 0, 1);
        bad(x, "grant", 8, 0, 1000, 1000, 0, 1);
        bad(x, "grant", 0, 8, 1000, 1000, 0, 1);
        bad(x, "grant", 0, 0, 1001, 1000, 0, 1);
        bad(x, "grant", 0, 0, 1000, 1000, 1024, 1);
        bad(x, "grant", 0, 0, 1000, 1000, 0, 13);
    }

    private static void badAheadOfState() {
        says("ANSWERS", "STATE -4 (not now)");
        ForfeitBook x = things(THING, 2);
        x.on(0, 1);
        state(x, "on", 1, 0);
        bad(x, "on", 0, 0);
        bad(x, "on", 1, 1);
        bad(x, "on", 2, 0);
        bad(x, "on", 1, 2);
        x.on(0, NONE);
        answers(x, NONE, "on", 1, 0);
    }

    private static void badAheadOfFindings() {
        says("ANSWERS", "FINDING -3 (finding() tells which)");
        ForfeitBook x = things(THING, 1);
        x.death(0, 1500, NONE);
        finds(x, SIZE, "row", 5, -1);
        bad(x, "row", 6, -1);
        finds(x, NOTHING, "lay", 5, 0, 0);
        bad(x, "lay", 6, 0, 0);
        finds(x, NOTHING, "tear", 5);
        bad(x, "tear", 6);
        finds(x, SIZE, "copy", 5, 0, 5, 0, -1);
        bad(x, "copy", 6, 0, 5, 0, -1);
        bad(x, "copy", 5, 0, 6, 0, -1);
        finds(x, NOTHING, "copy", 5, 0, 5, 0, 1);
        bad(x, "copy", 6, 0, 5, 0, 1);
        finds(x, UNLIKE, "mark", 0, BEAST);
        bad(x, "mark", 1, BEAST);
        bad(x, "mark", 0, 4);
        finds(x, NOUGHT, "mean", 9);
        bad(x, "mean", 10);
        finds(x, NOTHING, "acts", 0, 5);
        bad(x, "acts", 1, 5);
        bad(x, "acts", 0, 6);
        finds(x, NOUGHT, "habit", 0, 1500, 1500);
        bad(x, "habit", 8, 1500, 1500);
        bad(x, "habit", 0, 1501, 1500);
    }

    /** Numbers that are none, but for which the call has an answer of its own. */
    private static void otherwiseSaid() {
        says("ANSWERS", "unless a call says so otherwise");
        ForfeitBook x = things(THING, 1);
        die(x);
        x.row(0, 4);
        finds(x, SIZE, "row", 0, MIN);
        finds(x, SIZE, "copy", 0, 0, 0, 0, MIN);
        finds(x, BEYOND, "lay", 0, MIN, 0);
        finds(x, BEYOND, "copy", 0, MIN, 0, 0, 1);
        x.lay(0, 1, MIN);
        finds(x, UNLIKE, "acts", 0, 0);
    }

    private static void none() {
        says("ANSWERS", "NONE -9");
        Check.due("BAD", BAD, -1);
        Check.due("FULL", FULL, -2);
        Check.due("FINDING", FINDING, -3);
        Check.due("STATE", STATE, -4);
        Check.due("NONE", NONE, -9);
    }

    private static final String[] REFUSABLE = {"row", "lay", "tear", "copy", "thing", "on", "told", "mark", "worth",
        "mean", "death", "act", "acts", "deathTold", "moving", "blame", "text", "inForce", "forfeit", "value", "sure",
        "due", "unlike", "settle", "jury", "habit", "worstPlace", "shortfall", "grant", "taker", "takes", "otherwise",
        "freed", "shift", "leastChange", "count", "findings"};

    private static void refusedChangesNothing() {
        says("ANSWERS", "What is refused changes nothing but finding(), findings().");
        for (String name : REFUSABLE) {
            ForfeitBook x = fullBook();
            x.habit(0, 1000, 1900);
            x.told(7, 2);
            finds(x, BEYOND, "lay", 0, 40, 1);
            finds(x, SIZE, "row", 0, -1);
            for (int odd : new int[] {MIN, MAX, -1, NONE, 2000}) {
                bad(x, name, odd, odd, odd, odd, odd, odd);
            }
        }
    }

    private static void refusedInANewObject() {
        says("ANSWERS", "(a number that is none, or not as told)");
        ForfeitBook x = new ForfeitBook();
        for (String name : new String[] {"on", "told", "mark", "worth", "act", "acts", "deathTold", "moving", "blame",
            "forfeit", "value", "sure", "due", "unlike", "settle", "jury", "taker"}) {
            bad(x, name, 0, 0, 0, 0, 0, 0);
        }
        bad(x, "thing", 0, 0, 0, 0);
        Check.due("finding() after what is BAD", x.finding(), 0);
    }

    private static void nothing() {
        says("ANSWERS", "FINDINGS: 1 NOTHING (a ROW that is missing)");
        ForfeitBook x = things(THING, 1);
        die(x);
        for (int r = 0; r <= 5; r++) {
            finds(x, NOTHING, "lay", r, 0, 0);
            finds(x, NOTHING, "tear", r);
            finds(x, NOTHING, "copy", r, 0, r, 0, 0);
            finds(x, NOTHING, "acts", 0, r);
        }
        Check.due("findings(1)", x.findings(NOTHING), 24);
    }

    private static void beyond() {
        says("ANSWERS", "2 BEYOND (a place that there is not)");
        ForfeitBook x = new ForfeitBook();
        x.row(0, 40);
        x.row(1, 40);
        finds(x, BEYOND, "lay", 0, 40, 7);
        finds(x, BEYOND, "lay", 1, -1, 7);
        finds(x, BEYOND, "copy", 0, 0, 1, 1, 40);
        finds(x, BEYOND, "copy", 0, 1, 1, 0, 40);
        Check.due("findings(2)", x.findings(BEYOND), 4);
    }

    private static void unlike() {
        says("ANSWERS", "3 UNLIKE (a THING of another KIND)");
        boolean[][] isOf = {{false, false, false}, {true, false, false}, {true, true, false}, {false, false, true}};
        ForfeitBook x = new ForfeitBook();
        for (int kind = THING; kind <= STANDING; kind++) {
            x.thing(kind, 0, 0, NONE);
        }
        for (int t = 0; t < 4; t++) {
            for (int kind = BEAST; kind <= STANDING; kind++) {
                if (isOf[t][kind - 1]) keeps(x, 0, "mark", t, kind);
                else finds(x, UNLIKE, "mark", t, kind);
            }
        }
        Check.due("findings(3)", x.findings(UNLIKE), 8);
    }

    private static void nought() {
        says("ANSWERS", "4 NOUGHT (shared among none)");
        ForfeitBook x = new ForfeitBook();
        finds(x, NOUGHT, "mean", 0);
        finds(x, NOUGHT, "habit", 0, 1000, 1900);
        Check.due("findings(4)", x.findings(NOUGHT), 2);
    }

    private static void sizes() {
        says("ANSWERS", "5 SIZE (fewer than none, or not as many as due).");
        ForfeitBook x = things(THING, 1);
        die(x);
        x.row(0, 39);
        finds(x, SIZE, "row", 0, -1);
        finds(x, SIZE, "copy", 0, 0, 0, 0, -1);
        finds(x, SIZE, "acts", 0, 0);
        Check.due("findings(5)", x.findings(SIZE), 3);
    }

    private static void fractions() {
        says("ANSWERS", "Fractions are told by upper() and lower(), in lowest terms, the lower number above 0 (0 by"
            + " 1).");
        ForfeitBook x = things(STANDING, 1);
        Check.due("upper() before any", x.upper(), 0);
        Check.due("lower() before any", x.lower(), 1);
        x.text(1000, 1, true, 0);
        x.worth(0, 10000);
        int[][] due = {{1, 2}, {1, 4}, {1, 8}, {1, 16}, {1, 32}, {1, 64}, {1, 128}, {1, 256}, {1, 512}, {1, 1024},
            {1, 2048}, {1, 4096}};
        for (int d = 0; d < 12; d++) {
            x.jury(die(x, FELL, 0, 0, SURE), 0);
            x.habit(0, 1500, 1500);
            Check.due("upper() of " + (d + 1), x.upper(), due[d][0]);
            Check.due("lower() of " + (d + 1), x.lower(), due[d][1]);
        }
        int[][] fewer = {{13, 4096}, {79, 4096}, {299, 4096}, {397, 2048}, {1, 1}};
        for (int d = 0; d < 5; d++) {
            x.jury(d, 10000);
            if (d == 4) tellAll(x);
            x.habit(0, 1500, 1500);
            Check.due("upper() with one CUT fewer", x.upper(), fewer[d][0]);
            Check.due("lower() with one CUT fewer", x.lower(), fewer[d][1]);
        }
    }

    private static void tellAll(ForfeitBook x) {
        for (int d = 0; d < 12; d++) {
            x.jury(d, 10000);
        }
    }

    private static void sets() {
        says("ANSWERS", "Sets are told by bits (bit for number).");
        ForfeitBook x = things(STANDING, 19);
        x.thing(BEAST, 9, 1, NONE);
        x.text(1000, 1, true, 0);
        int d = die(x, STRIKES, 0, 0, SURE, STRIKES, 19, 0, SURE, GOES, 19, 0, SURE);
        tells(x, 1, 1 << 19, "moving", d, 0);
        tells(x, 1, 1 << 19, "blame", d, 0);
        tells(x, 2, 1 << 19 | 1, "forfeit", d, 0, 0);
        tells(x, 2, 1 << 19 | 1, "sure", d, 0);
        for (int n = 1; n < 11; n++) {
            die(x);
        }
        die(x, STRIKES, 0, 0, SURE);
        tells(x, 2, 1 << 11 | 1, "otherwise", 1, MOVED, 0);
        tells(x, 2, 1 << 11 | 1, "freed", 1, STOOD, 1 << 9 | 1);
        tells(x, 1, 1 << 11, "freed", 1, STOOD, 1);
    }
}
