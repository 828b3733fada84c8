import java.io.IOException;
import java.math.BigInteger;
import java.util.ArrayList;
import java.util.List;

/** The boundaries that promises 37 to 43 name: what is told. */
public final class ToldBoundaryTest extends Boundary {
    public static void main(String[] args) throws IOException {
        open(args);
        askedOfTheLatest();
        askedButNone();
        askedNotRefused();
        askedBefore();
        upper();
        upperBefore();
        lower();
        count();
        countRefused();
        finding();
        findingBefore();
        findings();
        findingsRefused();
        digestOfNew();
        digestOfOneOfEach();
        digestWrapsAround();
        end(promises(37, 43));
    }

    /** A BEAST 0 and a STANDING 1, which strike in DEATH 0; DEATH 1 has no ACTS. */
    private static ForfeitBook book() {
        ForfeitBook x = new ForfeitBook();
        x.row(0, 2);
        x.lay(0, 0, MIN);
        x.thing(BEAST, 0, 100, NONE);
        x.thing(STANDING, 9, 11, NONE);
        x.text(1000, 1, true, 0);
        x.death(0, 1500, 30);
        x.act(0, GOES, 0, 0, false);
        x.act(0, STRIKES, 0, 0, false);
        x.act(0, FELL, 1, 0, true);
        x.death(0, 1500, NONE);
        return x;
    }

    private static void askedOfTheLatest() {
        says("Promise 37", "What the latest lay(), told(), mean(), deathTold(), moving(), blame(), forfeit(), value(),"
            + " sure(), due(), settle()");
        ForfeitBook x = book();
        tells(x, 1, MIN, "lay", 0, 0, MAX);
        tells(x, 1, MAX, "lay", 0, 0, 0);
        tells(x, 1, 11, "told", 1, 5);
        tells(x, 1, 100, "mean", 0);
        tells(x, 1, NONE, "deathTold", 1, 2);
        tells(x, 1, 1, "moving", 0, 1);
        tells(x, 0, 0, "blame", 0, 1);
        tells(x, 2, 3, "forfeit", 0, 2, 0);
        tells(x, 11, 2, "value", 0, 0);
        tells(x, 2, 3, "sure", 0, 1);
        tells(x, 11, 0, "due", 0);
        tells(x, 1, 1, "settle", 0);
        x.told(0, 2);
        for (String name : new String[] {"row", "tear", "copy", "thing", "on", "mark", "worth", "death", "act", "acts",
            "text", "inForce", "unlike", "jury", "habit", "worstPlace", "grant", "leastChange", "count", "finding",
            "findings", "digest", "upper", "lower"}) {
            Calls.make(x, name, quietCall(name));
            Check.due("asked() after " + name, x.asked(), 100);
        }
    }

    /** A call that is not refused, and tells nothing by asked(). */
    private static int[] quietCall(String name) {
        switch (name) {
            case "row": return new int[] {5, 4};
            case "tear": return new int[] {5};
            case "copy": return new int[] {0, 0, 0, 1, 1};
            case "thing": return new int[] {ENGINE, 1, 7, 0};
            case "on": case "act": return new int[] {0, 1, 0, 1, SURE};
            case "mark": return new int[] {0, BEAST};
            case "acts": return new int[] {1, 0};
            case "death": return new int[] {0, 1000, 0};
            case "text": return new int[] {1900, 0, STOOD, 0};
            case "inForce": return new int[] {1900};
            case "habit": return new int[] {0, 1000, 1900};
            case "worstPlace": return new int[] {1000, 1900};
            case "grant": return new int[] {0, 0, 1000, 1900, 0, 1};
            case "findings": return new int[] {5};
            default: return new int[] {0, 0};
        }
    }

    private static void askedButNone() {
        says("Promise 37", " (but NONE), shortfall(), taker() (but NONE), takes(), otherwise(), freed(), shift()");
        ForfeitBook x = book();
        x.told(0, 2);
        keeps(x, NONE, "settle", 1);
        keeps(x, NONE, "taker", 0, 0);
        Check.due("asked() after NONE", x.asked(), 100);
        tells(x, 1, -19, "shortfall", 1500, 1500);
        tells(x, KING, 11, "taker", 0, 1);
        keeps(x, NONE, "taker", 1, 1);
        tells(x, 0, 0, "takes", 0, 1500, 1500);
        tells(x, 1, 1, "otherwise", 1, STOOD, 1 << 9);
        tells(x, 0, 0, "freed", 1, STOOD, 1);
        tells(x, 1, -11, "shift", 1, MOVED, 0, 10);
    }

    private static void askedNotRefused() {
        says("Promise 37", " that was not refused told");
        ForfeitBook x = book();
        x.told(0, 2);
        for (String name : new String[] {"told", "mean", "deathTold", "moving", "blame", "forfeit", "value", "sure",
            "due", "settle", "shortfall", "taker", "takes", "otherwise", "freed", "shift"}) {
            bad(x, name, 99, 0, 0, 0);
            Check.due("asked() after a refused " + name, x.asked(), 100);
        }
        finds(x, BEYOND, "lay", 0, 2, 1);
        finds(x, NOUGHT, "mean", 5);
        Check.due("asked() after FINDINGS", x.asked(), 100);
    }

    private static void askedBefore() {
        says("Promise 37", "; 0 before.");
        Check.due("asked() of a new object", new ForfeitBook().asked(), 0);
        ForfeitBook x = things(THING, 1);
        x.row(0, 1);
        x.told(1, 0);
        x.lay(0, 1, 7);
        keeps(x, NONE, "settle", die(x));
        Check.due("asked() of nothing told yet", x.asked(), 0);
    }

    /** Told worths of nothing for so many of twelve DEATHS. */
    private static ForfeitBook cut(int n) {
        ForfeitBook x = things(STANDING, 1);
        x.text(1000, 1, true, 0);
        for (int d = 0; d < 12; d++) {
            x.jury(die(x, FELL, 0, 0, SURE), d < n ? 0 : 1);
        }
        return x;
    }

    private static void upper() {
        says("Promise 38", "The upper number of the fraction that was told last");
        ForfeitBook x = cut(1);
        answers(x, 0, "habit", 0, 1500, 1500);
        Check.due("upper()", x.upper(), 4095);
        x.jury(0, 1);
        answers(x, 0, "habit", 0, 1500, 1500);
        Check.due("upper()", x.upper(), 1);
        Check.due("lower()", x.lower(), 1);
        finds(x, NOUGHT, "habit", 1, 1500, 1500);
        bad(x, "habit", 8, 1500, 1500);
        x.jury(0, 0);
        answers(x, 0, "worstPlace", 1500, 1500);
        Check.due("upper() stays", x.upper(), 1);
    }

    private static void upperBefore() {
        says("Promise 38", "; 0 before.");
        Check.due("upper() of a new object", new ForfeitBook().upper(), 0);
        ForfeitBook x = cut(12);
        finds(x, NOUGHT, "habit", 1, 1500, 1500);
        bad(x, "habit", 0, 1501, 1500);
        answers(x, 0, "worstPlace", 1500, 1500);
        Check.due("upper() of none told yet", x.upper(), 0);
    }

    private static void lower() {
        says("Promise 39", "Its lower number; 1 before.");
        Check.due("lower() of a new object", new ForfeitBook().lower(), 1);
        ForfeitBook x = cut(12);
        finds(x, NOUGHT, "habit", 1, 1500, 1500);
        bad(x, "habit", 0, 1501, 1500);
        answers(x, 0, "worstPlace", 1500, 1500);
        Check.due("lower() of none told yet", x.lower(), 1);
        answers(x, 1, "habit", 0, 1500, 1500);
        Check.due("lower()", x.lower(), 4096);
        finds(x, NOUGHT, "habit", 1, 1500, 1500);
        Check.due("lower() stays", x.lower(), 4096);
    }

    private static void count() {
        says("Promise 40", "0 THINGS, 1 DEATHS, 2 ACTS in all, 3 TEXTS, 4 GRANTS, 5 ROWS that are there.");
        int[] most = {20, 12, 120, 8, 10, 6};
        ForfeitBook full = fullBook();
        ForfeitBook none = new ForfeitBook();
        for (int what = 0; what <= 5; what++) {
            keeps(full, most[what], "count", what);
            keeps(none, 0, "count", what);
        }
        full(full, "act", 11, GOES, 0, 0, SURE);
        answers(full, 120, "count", 2);
        full.row(0, 0);
        answers(full, 6, "count", 5);
        full.acts(0, 0);
        answers(full, 110, "count", 2);
        full.tear(0);
        answers(full, 5, "count", 5);
    }

    private static void countRefused() {
        says("Promise 40", "BAD.");
        within(ForfeitBook::new, 0, 0, 5, "count", 0);
        within(Boundary::fullBook, 0, 0, 5, "count", 0);
    }

    private static void finding() {
        says("Promise 41", "The latest FINDING");
        ForfeitBook x = book();
        finds(x, SIZE, "row", 0, -1);
        finds(x, NOTHING, "tear", 5);
        finds(x, NOUGHT, "mean", 5);
        finds(x, BEYOND, "lay", 0, 2, 0);
        finds(x, UNLIKE, "mark", 1, BEAST);
        x.lay(0, 0, 0);
        bad(x, "tear", 6);
        x.on(0, 1);
        state(x, "on", 1, 0);
        Check.due("finding() stays", x.finding(), UNLIKE);
    }

    private static void findingBefore() {
        says("Promise 41", " (0 before any).");
        Check.due("finding() of a new object", new ForfeitBook().finding(), 0);
        ForfeitBook x = fullBook();
        bad(x, "tear", 6);
        full(x, "thing", 0, 0, 0, NONE);
        x.on(0, 1);
        state(x, "on", 1, 0);
        Check.due("finding() of none yet", x.finding(), 0);
    }

    private static void findings() {
        says("Promise 42", "How often a FINDING (1 .. 5) was answered.");
        ForfeitBook x = book();
        for (int f = NOTHING; f <= SIZE; f++) {
            keeps(x, 0, "findings", f);
        }
        for (int n = 1; n <= 15; n++) {
            finds(x, NOTHING, "tear", 5);
            finds(x, SIZE, "row", 0, -1);
            if (n > 1) continue;
            finds(x, BEYOND, "lay", 0, 2, 0);
            finds(x, UNLIKE, "mark", 1, BEAST);
            finds(x, NOUGHT, "mean", 5);
        }
        int[] due = {0, 15, 1, 1, 1, 15};
        for (int f = NOTHING; f <= SIZE; f++) {
            keeps(x, due[f], "findings", f);
        }
    }

    private static void findingsRefused() {
        says("Promise 42", "BAD.");
        within(ForfeitBook::new, 0, 1, 5, "findings", 1);
        bad(book(), "findings", 0);
        bad(book(), "findings", 6);
    }

    /** By numbers of whatever length, of which 64 bits are left in the end. */
    private static long digestOf(List<Integer> values) {
        BigInteger h = BigInteger.valueOf(17);
        for (int v : values) {
            h = h.multiply(BigInteger.valueOf(31)).add(BigInteger.valueOf(v));
        }
        return h.longValue();
    }

    private static void digestOfNew() {
        says("Promise 43", "h = 17; then h = 31 h + v for each v: count() 0 to 5");
        List<Integer> values = new ArrayList<>(List.of(0, 0, 0, 0, 0, 0, -1, -1, -1, -1, -1, -1));
        Check.due("digest() of a new object", new ForfeitBook().digest(), digestOf(values));
        ForfeitBook x = new ForfeitBook();
        x.row(0, 0);
        values.set(5, 1);
        values.set(6, 0);
        Check.due("digest() of an empty ROW", x.digest(), digestOf(values));
        x.tear(0);
        Check.due("digest() once it is torn", x.digest(), new ForfeitBook().digest());
    }

    private static void digestOfOneOfEach() {
        says("Promise 43", "; of each THING told() 0 to 6; of each DEATH deathTold() 0 to 5, of each ACT of it sort,"
            + " a, b (NONE, but of MOVES), 1 or 0 (doubtful); of each TEXT YEAR, RULE, 1 or 0 (STOOD), free SORTS");
        ForfeitBook x = new ForfeitBook();
        List<Integer> values = new ArrayList<>(List.of(2, 1, 4, 2, 0, 0));
        x.thing(STANDING, 9, 10000, NONE);
        x.thing(THING, 0, 0, 0);
        x.on(1, 0);
        values.addAll(List.of(3, 9, 10000, NONE, 0, 10000, NONE, 0, 0, 0, 0, 0, 0, 0));
        x.death(7, 1900, 100000);
        values.addAll(List.of(7, 1900, 100000, 4, 2, 4));
        int[] b = {MAX, 0, MIN, 1};
        for (int sort = GOES; sort <= FELL; sort++) {
            x.act(0, sort, 1, b[sort], sort % 2 == 0);
            values.addAll(List.of(sort, 1, sort == MOVES ? 0 : NONE, sort % 2 == 0 ? 1 : 0));
        }
        x.text(1000, 0, false, 0);
        x.text(1900, 3, true, 1023);
        values.addAll(List.of(1000, 0, 0, 0, 1900, 3, 1, 1023, -1, -1, -1, -1, -1, -1));
        Check.due("digest() of things, deaths, texts", x.digest(), digestOf(values));
    }

    private static void digestWrapsAround() {
        says("Promise 43", "; of each GRANT LORD, PLACE, both YEARS, SORTS, TWELFTHS; of each ROW its size (-1:"
            + " missing) and places.");
        ForfeitBook x = new ForfeitBook();
        List<Integer> values = new ArrayList<>(List.of(0, 0, 0, 0, 10, 5));
        for (int g = 0; g < 10; g++) {
            x.grant(g % 8, 7 - g % 8, 1000 + g, 1900 - g, 1023 - g, 12 - g);
            values.addAll(List.of(g % 8, 7 - g % 8, 1000 + g, 1900 - g, 1023 - g, 12 - g));
        }
        for (int r = 0; r < 6; r++) {
            int n = r == 1 ? 0 : 40;
            if (r != 4) x.row(r, n);
            values.add(r == 4 ? -1 : n);
            for (int i = 0; r != 4 && i < n; i++) {
                int v = i % 2 == 0 ? MIN + i : MAX - i;
                x.lay(r, i, v);
                values.add(v);
            }
        }
        Check.due("digest() of grants and rows", x.digest(), digestOf(values));
        Check.due("digest() again", x.digest(), digestOf(values));
        Check.due("asked() after digest()", x.asked(), 0);
    }
}
