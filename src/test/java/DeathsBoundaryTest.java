import java.io.IOException;
import java.util.function.Supplier;

/** The boundaries that promises 12 to 25 name: deaths, acts, readings, texts. */
public final class DeathsBoundaryTest extends Boundary {
    public static void main(String[] args) throws IOException {
        open(args);
        death();
        deathRefused();
        act();
        actRefused();
        actFull();
        acts();
        actsBad();
        actsOfNothing();
        actsNotByFours();
        actsNotAsTold();
        actsSixDoubtful();
        deathTold();
        deathToldRefused();
        moving();
        readingRefused("Promise 16", "BAD.", "moving");
        blame();
        readingRefused("Promise 17", "BAD.", "blame");
        text();
        textRefused();
        textFull();
        inForce();
        inForceRefused();
        forfeit();
        forfeitRefused();
        value();
        readingRefused("Promise 21", "BAD.", "value");
        valueOfNone();
        sure();
        deathAskedFor("Promise 22", "BAD.", "sure");
        due();
        deathAskedFor("Promise 23", "BAD.", "due");
        unlike();
        deathAskedFor("Promise 24", "BAD.", "unlike");
        settle();
        settleByTheWorseCase();
        settleOfAlike();
        settleOfNone();
        deathAskedFor("Promise 25", "BAD.", "settle");
        end(promises(12, 25));
    }

    /** A DEATH that can't be asked for, in a book of none, of one and of twelve. */
    private static void deathAskedFor(String promise, String words, String name) {
        says(promise, words);
        bad(new ForfeitBook(), name, 0, 0, 0);
        for (int n : new int[] {1, 12}) {
            within(() -> deaths(n), 0, 0, n - 1, name, 0, 0, 0);
        }
    }

    /** A READING that there is not, by none to five doubtful ACTS. */
    private static void readingRefused(String promise, String words, String name) {
        deathAskedFor(promise, words, name);
        for (int doubts = 0; doubts <= 5; doubts++) {
            ForfeitBook x = deaths(1);
            for (int k = 0; k < doubts; k++) {
                x.act(0, FELL, 0, 0, false);
            }
            within(() -> x, 1, 0, (1 << doubts) - 1, name, 0, 0, 0);
        }
    }

    /** That many DEATHS by one THING, and one TEXT. */
    private static ForfeitBook deaths(int n) {
        ForfeitBook x = things(THING, 2);
        x.text(1000, 1, true, 0);
        for (int d = 0; d < n; d++) {
            die(x, FELL, 0, 0, SURE);
        }
        return x;
    }

    private static void death() {
        says("Promise 12", "A DEATH: its number.");
        ForfeitBook x = new ForfeitBook();
        for (int d = 0; d < 12; d++) {
            quiet(x, d, "death", d % 8, d % 2 == 0 ? 1000 : 1900, d % 3 == 0 ? NONE : d % 3 == 1 ? 0 : 100000);
        }
    }

    private static void deathRefused() {
        says("Promise 12", "BAD; FULL.");
        within(ForfeitBook::new, 0, 0, 7, "death", 0, 1000, 0);
        within(ForfeitBook::new, 1, 1000, 1900, "death", 0, 1000, 0);
        withinOrNone(ForfeitBook::new, 2, 0, 100000, "death", 0, 1000, 0);
        bad(new ForfeitBook(), "death", 0, 1000, -8);
        bad(new ForfeitBook(), "death", 0, 1000, -10);
        ForfeitBook x = deaths(11);
        answers(x, 11, "death", 0, 1000, NONE);
        full(x, "death", 0, 1000, NONE);
        full(x, "death", 7, 1900, 100000);
        bad(x, "death", 8, 1900, 100000);
    }

    private static void act() {
        says("Promise 13", "An ACT of a DEATH (b is looked at by MOVES alone): how many it has.");
        ForfeitBook x = deaths(0);
        die(x);
        die(x);
        int[] odd = {MIN, MAX, NONE, -1, 0, 2, 20, 32, 256, 7};
        for (int k = 0; k < 10; k++) {
            quiet(x, k + 1, "act", 0, new int[] {GOES, STRIKES, FELL}[k % 3], 0, odd[k], k % 2);
        }
        quiet(x, 1, "act", 1, MOVES, 0, 1, SURE);
        quiet(x, 2, "act", 1, MOVES, 1, 0, SURE);
        tells(x, 1, 10, "deathTold", 0, 3);
        tells(x, 1, 2, "deathTold", 1, 3);
    }

    private static void actRefused() {
        says("Promise 13", "BAD: also a MOVES a");
        Supplier<ForfeitBook> fresh = () -> deaths(1);
        ForfeitBook x = fresh.get();
        bad(x, "act", 0, MOVES, 0, 0, SURE);
        bad(x, "act", 0, MOVES, 1, 1, DOUBTFUL);
        answers(x, 2, "act", 0, GOES, 0, 0, SURE);
        answers(x, 3, "act", 0, STRIKES, 1, 1, DOUBTFUL);
        within(fresh, 0, 0, 0, "act", 0, GOES, 0, 0, SURE);
        within(() -> deaths(12), 0, 0, 11, "act", 0, GOES, 0, 0, SURE);
        within(fresh, 1, GOES, FELL, "act", 0, 0, 0, 1, SURE);
        for (int sort : new int[] {GOES, STRIKES, FELL}) {
            within(fresh, 2, 0, 1, "act", 0, sort, 0, 0, SURE);
        }
        Supplier<ForfeitBook> three = () -> {
            ForfeitBook y = fresh.get();
            addThings(y, THING, 1);
            return y;
        };
        within(three, 2, 0, 1, "act", 0, MOVES, 0, 2, SURE);
        within(three, 3, 1, 2, "act", 0, MOVES, 0, 1, SURE);
        for (int v : new int[] {-1, 3, 20, 32, NONE, MIN, MAX}) {
            bad(three.get(), "act", 0, MOVES, v, 0, SURE);
            bad(three.get(), "act", 0, MOVES, 0, v, SURE);
            bad(three.get(), "act", 0, MOVES, v, v, SURE);
        }
        bad(new ForfeitBook(), "act", 0, GOES, 0, 0, SURE);
    }

    private static void actFull() {
        says("Promise 13", "; FULL: ten, or five doubtful ones and this one is, too.");
        ForfeitBook ten = deaths(1);
        for (int k = 1; k < 10; k++) {
            answers(ten, k + 1, "act", 0, FELL, 0, 0, SURE);
        }
        full(ten, "act", 0, FELL, 0, 0, SURE);
        full(ten, "act", 0, FELL, 0, 0, DOUBTFUL);
        ForfeitBook five = deaths(1);
        for (int k = 1; k <= 5; k++) {
            answers(five, k + 1, "act", 0, FELL, 0, 0, DOUBTFUL);
        }
        for (int k = 6; k < 10; k++) {
            full(five, "act", 0, FELL, 0, 0, DOUBTFUL);
            answers(five, k + 1, "act", 0, FELL, 0, 0, SURE);
        }
        full(five, "act", 0, FELL, 0, 0, SURE);
        bad(five, "act", 0, FELL, 2, 0, SURE);
        die(five);
        answers(five, 1, "act", 1, FELL, 0, 0, DOUBTFUL);
    }

    /** A ROW of so many ACTS, the first of them doubtful. */
    private static void fillActs(ForfeitBook x, int r, int n, int doubtful) {
        x.row(r, 4 * n);
        for (int k = 0; k < n; k++) {
            x.lay(r, 4 * k, FELL);
            x.lay(r, 4 * k + 2, MIN + k);
            x.lay(r, 4 * k + 3, k < doubtful ? DOUBTFUL : SURE);
        }
    }

    private static void acts() {
        says("Promise 14", "ACTS of a DEATH by a ROW: four places each (sort, a, b, 1 sure or 0 doubtful), in the"
            + " place of those it has: how many.");
        ForfeitBook x = deaths(12);
        fillActs(x, 5, 10, 5);
        quiet(x, 10, "acts", 11, 5);
        quiet(x, 10, "acts", 11, 5);
        tells(x, 1, 10, "deathTold", 11, 3);
        tells(x, 1, 5, "deathTold", 11, 4);
        fillActs(x, 0, 1, 0);
        quiet(x, 1, "acts", 11, 0);
        tells(x, 1, 0, "deathTold", 11, 4);
        x.row(3, 0);
        quiet(x, 0, "acts", 11, 3);
        tells(x, 1, 0, "deathTold", 11, 3);
        tells(x, 1, 1, "deathTold", 11, 5);
        tells(x, 1, 1, "deathTold", 10, 3);
        quiet(x, 0, "acts", 0, 3);
        answers(x, 10, "count", 2);
        int[][] rows = {{MOVES, 1, 0, DOUBTFUL, FELL, 1, 0, SURE}, {MOVES, 1, 0, SURE}, {MOVES, 0, 1, DOUBTFUL},
            {GOES, 1, 7, SURE, MOVES, 0, 1, SURE, STRIKES, 0, 7, DOUBTFUL}};
        for (int[] row : rows) {
            ForfeitBook byRow = deaths(1);
            fill(byRow, 0, row);
            byRow.acts(0, 0);
            ForfeitBook oneByOne = deaths(0);
            die(oneByOne, row);
            fill(oneByOne, 0, row);
            Check.due("digest()", byRow.digest(), oneByOne.digest());
        }
    }

    private static void actsBad() {
        says("Promise 14", "BAD: the DEATH, the ROW");
        ForfeitBook x = deaths(12);
        x.row(0, 0);
        x.row(5, 0);
        within(() -> x, 0, 0, 11, "acts", 0, 5);
        within(() -> x, 1, 0, 5, "acts", 11, 0);
        bad(new ForfeitBook(), "acts", 0, 0);
        bad(x, "acts", 12, 1);
    }

    private static void actsOfNothing() {
        says("Promise 14", "; NOTHING");
        ForfeitBook x = deaths(1);
        for (int r = 0; r <= 5; r++) {
            finds(x, NOTHING, "acts", 0, r);
        }
        x.row(0, 0);
        x.tear(0);
        finds(x, NOTHING, "acts", 0, 0);
    }

    /** A ROW of at most forty places never holds more than ten ACTS. */
    private static void actsNotByFours() {
        says("Promise 14", "; SIZE: not by fours, or more than ten");
        ForfeitBook x = deaths(1);
        x.act(0, FELL, 1, 0, false);
        for (int n = 0; n <= 40; n++) {
            ForfeitBook y = deaths(1);
            y.row(0, n);
            for (int i = 3; i < n; i += 4) {
                y.lay(0, i, SURE);
            }
            if (n % 4 == 0) quiet(y, n / 4, "acts", 0, 0);
            else finds(y, SIZE, "acts", 0, 0);
        }
        fill(x, 0, 9, 9, 9);
        finds(x, SIZE, "acts", 0, 0);
        tells(x, 1, 2, "deathTold", 0, 3);
    }

    private static void actsNotAsTold() {
        says("Promise 14", "; UNLIKE: one that is not as told");
        int[][] unlike = {{-1, 0, 1, 1}, {4, 0, 1, 1}, {MIN, 0, 1, 1}, {MAX, 0, 1, 1}, {GOES, 2, 1, 1},
            {GOES, -1, 1, 1}, {STRIKES, NONE, 1, 1}, {FELL, 32, 1, 1}, {MOVES, 0, 2, 1}, {MOVES, 0, -1, 1},
            {MOVES, 0, NONE, 1}, {MOVES, 0, 0, 1}, {MOVES, 1, 1, 0}, {MOVES, 2, 2, 1}, {GOES, 0, 1, 2},
            {GOES, 0, 1, -1}, {GOES, 0, 1, NONE}, {GOES, 0, 1, MIN}, {GOES, 0, 1, MAX}, {GOES, 0, 1, 257}};
        ForfeitBook x = deaths(1);
        x.act(0, GOES, 1, 0, false);
        for (int[] one : unlike) {
            fill(x, 0, one);
            finds(x, UNLIKE, "acts", 0, 0);
            fill(x, 0, GOES, 0, 0, SURE, one[0], one[1], one[2], one[3]);
            finds(x, UNLIKE, "acts", 0, 0);
            fillActs(x, 0, 10, 5);
            for (int i = 0; i < 4; i++) {
                x.lay(0, 36 + i, one[i]);
            }
            finds(x, UNLIKE, "acts", 0, 0);
        }
        fill(x, 0, MOVES, 0, 1, DOUBTFUL, GOES, 1, 99, SURE, FELL, 1, NONE, SURE);
        quiet(x, 3, "acts", 0, 0);
    }

    private static void actsSixDoubtful() {
        says("Promise 14", ", or six doubtful ones.");
        ForfeitBook x = deaths(1);
        for (int n = 6; n <= 10; n++) {
            fillActs(x, 0, n, 6);
            finds(x, UNLIKE, "acts", 0, 0);
            fillActs(x, 0, n, n);
            finds(x, UNLIKE, "acts", 0, 0);
            fillActs(x, 1, n, 5);
            quiet(x, n, "acts", 0, 1);
        }
        fillActs(x, 2, 5, 5);
        quiet(x, 5, "acts", 0, 2);
    }

    private static void deathTold() {
        says("Promise 15", "Of a DEATH: 0 PLACE, 1 YEAR, 2 the told worth (NONE), 3 how many ACTS, 4 how many of these"
            + " are doubtful, 5 READINGS, told by asked(): 1.");
        ForfeitBook x = deaths(0);
        x.death(0, 1000, NONE);
        for (int d = 1; d < 11; d++) {
            x.death(0, 1000, 0);
        }
        x.death(7, 1900, 100000);
        for (int k = 0; k < 10; k++) {
            x.act(11, FELL, 0, 0, k >= 5);
        }
        int[] first = {0, 1000, NONE, 0, 0, 1};
        int[] last = {7, 1900, 100000, 10, 5, 32};
        for (int what = 0; what <= 5; what++) {
            tells(x, 1, first[what], "deathTold", 0, what);
            tells(x, 1, last[what], "deathTold", 11, what);
        }
        tells(x, 1, 0, "deathTold", 1, 2);
    }

    private static void deathToldRefused() {
        deathAskedFor("Promise 15", "BAD.", "deathTold");
        within(() -> deaths(1), 1, 0, 5, "deathTold", 0, 0);
    }

    private static void moving() {
        says("Promise 16", "MOVING in a READING (bits of doubtful ACTS), told by asked(): how many.");
        ForfeitBook x = things(BEAST, 20);
        die(x);
        tells(x, 0, 0, "moving", 0, 0);
        for (int k = 0; k < 5; k++) {
            x.act(0, GOES, 19 - k, 0, false);
            tells(x, 0, 0, "moving", 0, 0);
            tells(x, 1, 1 << 19 - k, "moving", 0, 1 << k);
        }
        tells(x, 5, 31 << 15, "moving", 0, 31);
        for (int t = 0; t < 19; t++) {
            x.on(t, t + 1);
        }
        tells(x, 20, (1 << 20) - 1, "moving", 0, 1);
        tells(x, 16, (1 << 16) - 1, "moving", 0, 16);
    }

    private static void blame() {
        says("Promise 17", "TO BLAME in a READING, told by asked(): how many.");
        ForfeitBook x = things(BEAST, 20);
        die(x);
        tells(x, 0, 0, "blame", 0, 0);
        for (int k = 0; k < 5; k++) {
            x.act(0, GOES, 19 - k, 0, false);
            x.act(0, STRIKES, 19 - k, 0, true);
            tells(x, 0, 0, "blame", 0, 0);
            tells(x, 1, 1 << 19 - k, "blame", 0, 1 << k);
        }
        tells(x, 5, 31 << 15, "blame", 0, 31);
        for (int t = 0; t < 19; t++) {
            x.on(t, t + 1);
        }
        tells(x, 5, 31 << 15, "blame", 0, 1);
        int d = die(x, GOES, 19, 0, SURE, FELL, 0, 0, SURE);
        tells(x, 20, (1 << 20) - 1, "blame", d, 0);
    }

    private static void text() {
        says("Promise 18", "A TEXT: its number.");
        ForfeitBook x = new ForfeitBook();
        for (int n = 0; n < 8; n++) {
            quiet(x, n, "text", n % 2 == 0 ? 1000 : 1900, n % 4, n % 2, n % 2 == 0 ? 0 : 1023);
        }
    }

    private static void textRefused() {
        says("Promise 18", "BAD: the YEAR, RULE, bits");
        within(ForfeitBook::new, 0, 1000, 1900, "text", 1000, 0, STOOD, 0);
        within(ForfeitBook::new, 1, 0, 3, "text", 1000, 0, STOOD, 0);
        within(ForfeitBook::new, 3, 0, 1023, "text", 1000, 0, STOOD, 0);
        bad(new ForfeitBook(), "text", 1000, 0, STOOD, 1 << 31 | 1);
        bad(new ForfeitBook(), "text", 1000, 0, STOOD, 2047);
    }

    private static void textFull() {
        says("Promise 18", "; FULL.");
        ForfeitBook x = new ForfeitBook();
        for (int n = 0; n < 8; n++) {
            answers(x, n, "text", 1500, 0, MOVED, 0);
        }
        full(x, "text", 1500, 0, MOVED, 0);
        full(x, "text", 1000, 3, STOOD, 1023);
        bad(x, "text", 999, 3, STOOD, 1023);
        keeps(x, 7, "inForce", 1500);
    }

    private static void inForce() {
        says("Promise 19", "IN FORCE in a YEAR: the TEXT; NONE.");
        ForfeitBook x = new ForfeitBook();
        keeps(x, NONE, "inForce", 1000);
        keeps(x, NONE, "inForce", 1900);
        x.text(1900, 0, false, 0);
        keeps(x, NONE, "inForce", 1899);
        keeps(x, 0, "inForce", 1900);
        x.text(1000, 0, false, 0);
        keeps(x, 1, "inForce", 1000);
        keeps(x, 1, "inForce", 1899);
        keeps(x, 0, "inForce", 1900);
    }

    private static void inForceRefused() {
        says("Promise 19", "BAD.");
        within(ForfeitBook::new, 0, 1000, 1900, "inForce", 1000);
    }

    private static void forfeit() {
        says("Promise 20", "FORFEIT in a READING by a TEXT, told by asked(): how many.");
        ForfeitBook x = things(STANDING, 20);
        die(x);
        for (int n = 0; n < 8; n++) {
            x.text(1900, n / 2, n % 2 == 1, 0);
            tells(x, 0, 0, "forfeit", 0, 0, n);
        }
        for (int k = 0; k < 5; k++) {
            x.act(0, FELL, 15 + k, 0, false);
        }
        for (int n = 0; n < 8; n++) {
            int stood = n % 2;
            tells(x, 0, 0, "forfeit", 0, 0, n);
            tells(x, stood, stood << 19, "forfeit", 0, 16, n);
            tells(x, 5 * stood, 31 * stood << 15, "forfeit", 0, 31, n);
        }
    }

    private static void forfeitRefused() {
        readingRefused("Promise 20", "BAD.", "forfeit");
        ForfeitBook x = deaths(12);
        x.act(11, FELL, 0, 0, false);
        within(() -> x, 2, 0, 0, "forfeit", 11, 1, 0);
        for (int n = 1; n < 8; n++) {
            x.text(1900, 0, false, 0);
        }
        within(() -> x, 2, 0, 7, "forfeit", 11, 1, 0);
        ForfeitBook none = things(THING, 1);
        die(none);
        bad(none, "forfeit", 0, 0, 0);
        bad(none, "forfeit", 0, 0, NONE);
    }

    private static void value() {
        says("Promise 21", "FORFEIT in a READING by the TEXT IN FORCE, told by asked(): its VALUE.");
        ForfeitBook x = new ForfeitBook();
        for (int t = 0; t < 20; t++) {
            x.thing(STANDING, 0, 10000, t % 5 == 0 ? NONE : t - 1);
        }
        x.text(1500, 1, true, 0);
        die(x, FELL, 0, 0, DOUBTFUL, FELL, 5, 0, DOUBTFUL, FELL, 10, 0, DOUBTFUL, FELL, 15, 0, DOUBTFUL,
            FELL, 19, 0, DOUBTFUL);
        tells(x, 0, 0, "value", 0, 0);
        tells(x, 50000, 1, "value", 0, 1);
        tells(x, 10000, 1 << 19, "value", 0, 16);
        tells(x, 200000, 1 | 1 << 5 | 1 << 10 | 1 << 15, "value", 0, 31);
        x.text(1501, 1, true, 1);
        tells(x, 200000, 1 | 1 << 5 | 1 << 10 | 1 << 15, "value", 0, 31);
        x.text(1500, 1, true, 1);
        tells(x, 0, 0, "value", 0, 31);
    }

    private static void valueOfNone() {
        says("Promise 21", "(None IN FORCE: none, 0.)");
        ForfeitBook x = things(STANDING, 1);
        die(x, FELL, 0, 0, DOUBTFUL);
        tells(x, 0, 0, "value", 0, 0);
        tells(x, 0, 0, "value", 0, 1);
        x.text(1501, 1, true, 0);
        tells(x, 0, 0, "value", 0, 1);
        bad(x, "value", 0, 2);
        x.text(1000, 1, true, 0);
        tells(x, 1, 1, "value", 0, 1);
    }

    private static void sure() {
        says("Promise 22", "SURE (maybe: MAYBE) by the TEXT IN FORCE, told by asked(): how many.");
        ForfeitBook x = things(STANDING, 20);
        die(x);
        tells(x, 0, 0, "sure", 0, 0);
        tells(x, 0, 0, "sure", 0, 1);
        for (int k = 0; k < 5; k++) {
            x.act(0, FELL, k, 0, false);
            x.act(0, FELL, 19 - k, 0, true);
        }
        tells(x, 0, 0, "sure", 0, 0);
        tells(x, 0, 0, "sure", 0, 1);
        x.text(1500, 1, true, 0);
        tells(x, 5, 31 << 15, "sure", 0, 0);
        tells(x, 10, 31 << 15 | 31, "sure", 0, 1);
    }

    private static void due() {
        says("Promise 23", "DUE of a DEATH; the DUE READING by asked().");
        ForfeitBook x = new ForfeitBook();
        for (int t = 0; t < 20; t++) {
            x.thing(STANDING, 0, 10000, t == 0 ? NONE : t - 1);
        }
        die(x, FELL, 0, 0, SURE, FELL, 0, 0, DOUBTFUL);
        x.deathTold(0, 1);
        tells(x, 0, 0, "due", 0);
        x.text(1500, 1, true, 0);
        x.deathTold(0, 1);
        tells(x, 200000, 0, "due", 0);
        x.deathTold(0, 1);
        tells(x, 0, 0, "due", die(x, FELL, 0, 0, DOUBTFUL, FELL, 19, 0, DOUBTFUL));
        tells(x, 10000, 0, "due", die(x, FELL, 0, 0, DOUBTFUL, FELL, 19, 0, SURE));
        tells(x, 0, 0, "due", die(x));
    }

    private static void unlike() {
        says("Promise 24", "How many unlike sets are forfeit in READINGS of a DEATH.");
        ForfeitBook x = things(STANDING, 20);
        die(x);
        keeps(x, 1, "unlike", 0);
        for (int k = 0; k < 5; k++) {
            x.act(0, FELL, 19 - k, 0, false);
            x.act(0, GOES, k, 0, true);
        }
        keeps(x, 1, "unlike", 0);
        x.text(1500, 1, true, 0);
        keeps(x, 32, "unlike", 0);
        x.text(1500, 1, true, 1);
        keeps(x, 1, "unlike", 0);
        x.text(1500, 1, true, 0);
        die(x, FELL, 0, 0, DOUBTFUL, FELL, 0, 0, DOUBTFUL, FELL, 0, 0, DOUBTFUL, FELL, 0, 0, DOUBTFUL,
            FELL, 0, 0, DOUBTFUL);
        keeps(x, 2, "unlike", 1);
        x.act(1, FELL, 0, 0, true);
        keeps(x, 1, "unlike", 1);
    }

    private static void settle() {
        says("Promise 25", "The doubtful ACT (its number among ACTS) that, once known to be so or not, leaves the"
            + " fewest unlike sets in the worse case");
        ForfeitBook x = things(STANDING, 5);
        addThings(x, BEAST, 1);
        x.text(1500, 1, true, 0);
        die(x, FELL, 0, 0, SURE, FELL, 1, 0, DOUBTFUL);
        tells(x, 1, 1, "settle", 0);
        x.text(1500, 1, false, 0);
        die(x, GOES, 0, 0, SURE, GOES, 0, 0, SURE, GOES, 0, 0, SURE, GOES, 0, 0, SURE, GOES, 0, 0, SURE,
            GOES, 0, 0, SURE, GOES, 0, 0, SURE, GOES, 0, 0, SURE, STRIKES, 5, 0, SURE, GOES, 5, 0, DOUBTFUL);
        tells(x, 9, 1, "settle", 1);
        ForfeitBook chain = things(THING, 5);
        addThings(chain, BEAST, 1);
        chain.text(1500, 1, false, 0);
        die(chain, STRIKES, 0, 0, DOUBTFUL, STRIKES, 1, 0, DOUBTFUL, MOVES, 5, 0, SURE, MOVES, 5, 1, SURE,
            GOES, 5, 0, DOUBTFUL);
        tells(chain, 0, 3, "settle", 0);
        keeps(chain, 4, "unlike", 0);
        chain.act(0, STRIKES, 0, 0, true);
        tells(chain, 1, 2, "settle", 0);
    }

    /** That the WHOLE fell, too, leaves one set, and that it did not leaves four: the worse case is of the latter. */
    private static void settleByTheWorseCase() {
        says("Promise 25", "in the worse case");
        ForfeitBook x = things(STANDING, 1);
        x.thing(STANDING, 0, 1, 0);
        x.thing(STANDING, 0, 1, 0);
        x.text(1500, 1, true, 0);
        die(x, FELL, 0, 0, DOUBTFUL, FELL, 1, 0, DOUBTFUL, FELL, 2, 0, DOUBTFUL);
        tells(x, 1, 3, "settle", 0);
        keeps(x, 5, "unlike", 0);
    }

    private static void settleOfAlike() {
        says("Promise 25", ", the least of alike ones; how many by asked()");
        ForfeitBook x = things(STANDING, 10);
        x.text(1500, 1, true, 0);
        die(x, FELL, 9, 0, SURE, FELL, 8, 0, SURE, FELL, 7, 0, SURE, FELL, 6, 0, SURE, FELL, 5, 0, SURE);
        for (int t = 0; t < 5; t++) {
            x.act(0, FELL, t, 0, false);
            tells(x, 5, 1 << t, "settle", 0);
        }
        x.text(1500, 1, false, 0);
        tells(x, 5, 1, "settle", 0);
        ForfeitBook none = things(STANDING, 1);
        die(none, FELL, 0, 0, DOUBTFUL, FELL, 0, 0, DOUBTFUL);
        tells(none, 0, 1, "settle", 0);
    }

    private static void settleOfNone() {
        says("Promise 25", "; NONE: no ACT is doubtful.");
        ForfeitBook x = deaths(1);
        x.told(0, 2);
        keeps(x, NONE, "settle", 0);
        keeps(x, NONE, "settle", die(x));
        for (int k = 1; k < 10; k++) {
            x.act(0, FELL, 0, 0, true);
        }
        keeps(x, NONE, "settle", 0);
        fill(x, 0, FELL, 0, 0, DOUBTFUL);
        x.acts(0, 0);
        tells(x, 0, 1, "settle", 0);
    }
}
