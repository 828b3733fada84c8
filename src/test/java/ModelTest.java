import java.util.Arrays;
import java.util.Random;

/** All promises: long runs of calls, chosen by fixed seeds, answered alike by ForfeitBook and by PlainBook. */
public final class ModelTest {
    private static final int NONE = ForfeitBook.NONE;
    private static final int RUNS = 120, CALLS = 512;
    private static final String[] TELLING = {"told", "mark", "mean", "deathTold", "moving", "blame", "inForce",
        "forfeit", "value", "sure", "due", "unlike", "settle", "habit", "worstPlace", "shortfall", "taker", "takes",
        "otherwise", "freed", "shift", "leastChange", "count", "findings"};
    private static final String[] CHANGING = {"row", "lay", "lay", "lay", "tear", "copy", "thing", "on", "on", "worth",
        "worth", "death", "act", "act", "act", "acts", "acts", "text", "jury", "jury", "grant"};

    private final Random random;
    private final ForfeitBook book = new ForfeitBook();
    private final PlainBook plain = new PlainBook();
    private final int run;
    private final int oddness;
    private int things = 0, deaths = 0;

    private ModelTest(int run) {
        this.run = run;
        random = new Random(run);
        oddness = new int[] {0, 10, 30, 100, 400}[run % 5];
    }

    public static void main(String[] args) {
        int[] answered = new int[8];
        for (int run = 0; run < RUNS; run++) {
            new ModelTest(run).go(answered);
        }
        for (int refusal = 1; refusal <= 4; refusal++) {
            Check.isTrue("the runs had enough answers of -" + refusal, answered[refusal] > 20);
        }
        Check.isTrue("most calls were not refused", answered[0] > RUNS * CALLS / 2);
        Check.end();
    }

    private void go(int[] answered) {
        setUp();
        for (int n = 0; n < CALLS; n++) {
            boolean telling = random.nextInt(100) < 65;
            String name = telling ? pick(TELLING) : pick(CHANGING);
            long answer = made(name, chosen(name));
            answered[answer < 0 && answer >= -4 ? (int) -answer : 0]++;
        }
    }

    /** A book that is worth asking: without it most calls would be refused. */
    private void setUp() {
        if (run % 13 == 0) {
            fillUp();
            return;
        }
        int n = 1 + random.nextInt(19);
        for (int i = 0; i < n; i++) {
            made("thing", chosen("thing"));
        }
        for (int i = 0; i < n / 2; i++) {
            made("on", chosen("on"));
        }
        n = random.nextInt(5);
        for (int i = 0; i < n; i++) {
            made("text", chosen("text"));
        }
        n = 1 + random.nextInt(11);
        for (int i = 0; i < n; i++) {
            made("death", chosen("death"));
        }
        for (int i = 0; i < 6 * n; i++) {
            made("act", chosen("act"));
        }
    }

    /** As many of all as there can be. */
    private void fillUp() {
        for (String name : new String[] {"thing", "death", "text", "grant"}) {
            for (int n = 0; n < 20; n++) {
                made(name, chosen(name));
            }
        }
        for (int d = 0; d < 12; d++) {
            for (int k = 0; k < 10; k++) {
                int[] act = chosen("act");
                act[0] = d;
                act[4] = k % 2;
                made("act", act);
            }
        }
        for (int r = 0; r < 6; r++) {
            made("row", new int[] {r, 40});
        }
    }

    private String pick(String[] names) {
        return names[random.nextInt(names.length)];
    }

    /** A number from 0 to below a bound; at times one at the edge or far beyond. */
    private int below(int bound) {
        return from(0, bound - 1);
    }

    private int from(int least, int most) {
        if (random.nextInt(1000) < oddness) {
            int[] odd = {least - 1, most + 1, NONE, -1, Integer.MIN_VALUE, Integer.MAX_VALUE, 0, least, most};
            return odd[random.nextInt(odd.length)];
        }
        return most < least ? least : least + random.nextInt(most - least + 1);
    }

    private int orNone(int n, int percent) {
        return random.nextInt(100) < percent ? NONE : n;
    }

    private int year() {
        int[] often = {1000, 1500, 1501, 1900};
        return random.nextInt(3) == 0 ? often[random.nextInt(4)] : from(1480, 1520);
    }

    private int reading() {
        return random.nextInt(4) == 0 ? from(0, 31) : random.nextInt(2);
    }

    /** Few SORTS, places and lords, so that they meet. */
    private int sort() {
        return random.nextInt(4) == 0 ? below(10) : random.nextInt(3);
    }

    private int free() {
        int n = random.nextInt(4);
        return n == 0 ? 0 : n == 1 ? 1 << random.nextInt(3) : n == 2 ? random.nextInt(8) : from(0, 1023);
    }

    private int worth() {
        int[] often = {0, 1, 2, 3, 11, 12, 10000};
        return random.nextBoolean() ? often[random.nextInt(often.length)] : from(0, 10000);
    }

    private int toldWorth() {
        int n = random.nextInt(4);
        return n == 0 ? NONE : n == 1 ? from(0, 100000) : n == 2 ? random.nextInt(20) : random.nextInt(6000);
    }

    private int place() {
        return random.nextInt(5) == 0 ? below(8) : random.nextInt(2);
    }

    private int truth() {
        return random.nextInt(2);
    }

    private int[] years() {
        int a = year();
        int b = year();
        return random.nextInt(10) == 0 ? new int[] {a, b} : new int[] {Math.min(a, b), Math.max(a, b)};
    }

    private int[] chosen(String name) {
        int[] y = years();
        switch (name) {
            case "row": return new int[] {below(6), random.nextBoolean() ? 4 * random.nextInt(11) : from(0, 40)};
            case "lay": return new int[] {below(6), from(0, 12), random.nextInt(4) == 0 ? below(things) : truth()};
            case "tear": return new int[] {below(6)};
            case "copy": return new int[] {below(6), from(0, 8), below(6), from(0, 8), from(0, 8)};
            case "thing": return new int[] {kind(), sort(), worth(), orNone(below(things), 50)};
            case "on": return new int[] {below(things), orNone(below(things), 25)};
            case "told": return new int[] {below(things), below(7)};
            case "mark": return new int[] {below(things), from(1, 3)};
            case "worth": return new int[] {below(things), worth()};
            case "mean": return new int[] {sort()};
            case "death": return new int[] {place(), year(), toldWorth()};
            case "act": return new int[] {below(deaths), below(4), below(things), below(things), truth()};
            case "acts": return new int[] {below(deaths), below(6)};
            case "deathTold": return new int[] {below(deaths), below(6)};
            case "moving": case "blame": case "value": return new int[] {below(deaths), reading()};
            case "text": return new int[] {year(), below(4), truth(), free()};
            case "inForce": return new int[] {year()};
            case "forfeit": return new int[] {below(deaths), reading(), below(5)};
            case "sure": return new int[] {below(deaths), truth()};
            case "due": case "unlike": case "settle": return new int[] {below(deaths)};
            case "jury": return new int[] {below(deaths), toldWorth()};
            case "habit": return new int[] {place(), y[0], y[1]};
            case "worstPlace": case "shortfall": return y;
            case "grant": return new int[] {lord(), place(), y[0], y[1], from(0, 1023), from(1, 12)};
            case "taker": return new int[] {below(deaths), below(things)};
            case "takes": return new int[] {random.nextInt(3) == 0 ? 9 : lord(), y[0], y[1]};
            case "otherwise": case "freed": return new int[] {below(4), truth(), free()};
            case "shift": return new int[] {below(4), truth(), free(), random.nextInt(3) == 0 ? 10 : sort()};
            case "leastChange": return new int[] {sort(), free()};
            case "count": return new int[] {below(6)};
            case "findings": return new int[] {from(1, 5)};
            default: throw new IllegalStateException(name);
        }
    }

    private int kind() {
        return random.nextInt(3) == 0 ? 1 : below(4);
    }

    private int lord() {
        return random.nextInt(5) == 0 ? below(8) : random.nextInt(3);
    }

    private long made(String name, int[] p) {
        String told = "run " + run + ": " + name + Arrays.toString(p);
        long want = plain.call(name, p);
        long got = Calls.make(book, name, p);
        Check.due(told, got, want);
        for (String after : new String[] {"asked", "upper", "lower", "finding", "digest"}) {
            Check.due(told + ", then " + after + "()", Calls.make(book, after), plain.call(after));
        }
        if (name.equals("thing") && got >= 0) things++;
        if (name.equals("death") && got >= 0) deaths++;
        return got;
    }
}
