import java.io.IOException;
import java.nio.file.Files;
import java.nio.file.Path;
import java.util.Arrays;
import java.util.LinkedHashMap;
import java.util.Map;
import java.util.function.Supplier;

/**
 * What the tests at the boundaries share. Each of them quotes the words of the document that it holds the class to;
 * the words must stand in the document, and no word of the sections that a test goes through may be left out.
 */
class Boundary {
    static final int BAD = ForfeitBook.BAD, FULL = ForfeitBook.FULL, FINDING = ForfeitBook.FINDING,
        STATE = ForfeitBook.STATE, NONE = ForfeitBook.NONE;
    static final int NOTHING = 1, BEYOND = 2, UNLIKE = 3, NOUGHT = 4, SIZE = 5;
    static final int THING = 0, BEAST = 1, ENGINE = 2, STANDING = 3;
    static final int GOES = 0, MOVES = 1, STRIKES = 2, FELL = 3;
    static final int SURE = 1, DOUBTFUL = 0, STOOD = 1, MOVED = 0, KING = 9;
    static final int MIN = Integer.MIN_VALUE, MAX = Integer.MAX_VALUE;

    private static final Map<String, String> document = new LinkedHashMap<>();
    private static final Map<String, boolean[]> quoted = new LinkedHashMap<>();

    /** Reads the document, if it is there: its path comes second, after that of the class. */
    static void open(String[] args) throws IOException {
        if (args.length < 2 || !Files.exists(Path.of(args[1]))) {
            System.out.println("the document was not found: what the tests quote is not looked up in it");
            return;
        }
        String section = "";
        for (String line : Files.readString(Path.of(args[1])).split("\n")) {
            String heading = headingOf(line);
            if (heading != null) section = heading;
            String words = line.replaceFirst("^## .*", "").replaceFirst("^======== (ANSWERS\\.|[1-4]) ", "");
            words = words.replaceFirst("^```.*", "").replaceFirst("^`[^`]*`: ", "").trim();
            if (!words.isEmpty()) document.merge(section, words, (all, more) -> all + " " + more);
        }
    }

    /** The sections are the document's headings, ANSWERS, 1 to 4, and Promise 1 to Promise 43. */
    private static String headingOf(String line) {
        if (line.startsWith("======== ")) return line.split("[ .]")[1];
        if (line.startsWith("Ahead of the calls")) return "the interface";
        return line.startsWith("## ") ? line.substring(3).split(":")[0] : null;
    }

    /** All words of a section, or none if the document was not found. */
    static String wordsOf(String section) {
        return document.getOrDefault(section, "");
    }

    static void says(String section, String words) {
        Check.under(section + " says \"" + words + "\"");
        String text = document.get(section);
        if (text == null) {
            if (!document.isEmpty()) Check.isTrue("the document has this section", false);
            return;
        }
        boolean[] marks = quoted.computeIfAbsent(section, s -> new boolean[text.length()]);
        int at = text.indexOf(words);
        Check.isTrue("the document has these words", at >= 0);
        for (; at >= 0; at = text.indexOf(words, at + 1)) {
            Arrays.fill(marks, at, at + words.length(), true);
        }
    }

    /** No word of these sections may stand in the document without a test that quotes it. */
    static void end(String... sections) {
        for (String section : sections) {
            String text = document.getOrDefault(section, "");
            boolean[] marks = quoted.getOrDefault(section, new boolean[text.length()]);
            StringBuilder left = new StringBuilder();
            for (int i = 0; i < text.length(); i++) {
                left.append(marks[i] ? '|' : text.charAt(i));
            }
            String untested = left.toString().replaceAll("[|]+", " | ");
            Check.under(section);
            Check.isTrue("no test quotes these words: " + untested, !untested.matches(".*[A-Za-z0-9].*"));
        }
        Check.end();
    }

    static String[] promises(int first, int last) {
        String[] names = new String[last - first + 1];
        for (int i = 0; i < names.length; i++) {
            names[i] = "Promise " + (first + i);
        }
        return names;
    }

    private static String told(String name, int[] p) {
        return name + Arrays.toString(p);
    }

    /** What a call answers, whatever else it does; a boolean parameter is 1 or 0. */
    static void answers(ForfeitBook x, long due, String name, int... p) {
        Check.due(told(name, p), Calls.make(x, name, p), due);
    }

    /** What a call answers and what it tells by asked(). */
    static void tells(ForfeitBook x, int answer, int asked, String name, int... p) {
        Check.told(x, told(name, p), () -> (int) Calls.make(x, name, p), answer, asked);
    }

    /** What a call answers that changes nothing, and tells nothing by asked(). */
    static void keeps(ForfeitBook x, int answer, String name, int... p) {
        Check.still(x, told(name, p), () -> (int) Calls.make(x, name, p), answer);
    }

    /** What a call answers that tells nothing by asked(), upper() and lower(). */
    static void quiet(ForfeitBook x, int answer, String name, int... p) {
        Check.quiet(x, told(name, p), () -> (int) Calls.make(x, name, p), answer);
    }

    static void bad(ForfeitBook x, String name, int... p) {
        keeps(x, BAD, name, p);
    }

    static void full(ForfeitBook x, String name, int... p) {
        keeps(x, FULL, name, p);
    }

    static void state(ForfeitBook x, String name, int... p) {
        keeps(x, STATE, name, p);
    }

    static void finds(ForfeitBook x, int which, String name, int... p) {
        Check.finding(x, told(name, p), which, () -> (int) Calls.make(x, name, p));
    }

    /** A parameter may be from the least to the most, and is BAD about these, far beyond them, and as NONE. */
    static void within(Supplier<ForfeitBook> fresh, int at, int least, int most, String name, int... p) {
        withinOrNone(fresh, at, least, most, name, p);
        bad(fresh.get(), name, with(p, at, NONE));
    }

    static void withinOrNone(Supplier<ForfeitBook> fresh, int at, int least, int most, String name, int... p) {
        for (int edge : new int[] {least, most}) {
            long answer = Calls.make(fresh.get(), name, with(p, at, edge));
            String call = told(name, with(p, at, edge)) + " answered " + answer + ", and should not be refused";
            Check.isTrue(call, answer >= 0 || answer == NONE);
        }
        // Numbers that a shift, a cast to a smaller type or a sum that wraps around would take for one within.
        int[] beyond = {least - 1, most + 1, -1, least - 32, most + 32, least + 64, least + (1 << 8), most + (1 << 16),
            least + MIN, ~least, MIN, MIN + 1, MAX, MAX - 1};
        for (int v : beyond) {
            if (v < least || v > most) bad(fresh.get(), name, with(p, at, v));
        }
    }

    private static int[] with(int[] p, int at, int v) {
        int[] changed = p.clone();
        changed[at] = v;
        return changed;
    }

    static ForfeitBook things(int kind, int n) {
        ForfeitBook x = new ForfeitBook();
        addThings(x, kind, n);
        return x;
    }

    static void addThings(ForfeitBook x, int kind, int n) {
        for (int i = 0; i < n; i++) {
            x.thing(kind, 0, 1, NONE);
        }
    }

    /** One more DEATH in PLACE 0, 1500, with these ACTS, four numbers each: its number. */
    static int die(ForfeitBook x, int... acts) {
        int d = x.death(0, 1500, NONE);
        for (int i = 0; i < acts.length; i += 4) {
            x.act(d, acts[i], acts[i + 1], acts[i + 2], acts[i + 3] == SURE);
        }
        return d;
    }

    static void fill(ForfeitBook x, int r, int... values) {
        x.row(r, values.length);
        for (int i = 0; i < values.length; i++) {
            x.lay(r, i, values[i]);
        }
    }

    /** Looks at places of a ROW, which stay as they are. */
    static void holds(ForfeitBook x, int r, int from, int... values) {
        for (int i = 0; i < values.length; i++) {
            tells(x, 1, values[i], "lay", r, from + i, values[i]);
        }
    }

    /** As many of all as there can be: 20 THINGS, 12 DEATHS of 10 ACTS, 8 TEXTS, 10 GRANTS, 6 ROWS of 40. */
    static ForfeitBook fullBook() {
        ForfeitBook x = new ForfeitBook();
        fillUp(x);
        return x;
    }

    static void fillUp(ForfeitBook x) {
        for (int t = 0; t < 20; t++) {
            x.thing(t % 4, t % 10, 10000, NONE);
        }
        for (int n = 0; n < 8; n++) {
            x.text(1000 + n, 1, true, 0);
        }
        for (int g = 0; g < 10; g++) {
            x.grant(g % 8, 0, 1000, 1900, 1 << g, 12);
        }
        for (int d = 0; d < 12; d++) {
            x.death(d % 8, 1900 - d, 100000);
            for (int k = 0; k < 10; k++) {
                x.act(d, STRIKES, k, 0, k % 2 == 0);
            }
        }
        for (int r = 0; r < 6; r++) {
            x.row(r, 40);
        }
    }
}
