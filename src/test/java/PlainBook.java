import java.math.BigInteger;
import java.util.ArrayList;
import java.util.HashSet;
import java.util.List;
import java.util.Set;
import java.util.TreeSet;

/** The document word by word, with sets and lists and no thought of speed: what ForfeitBook is held against. */
final class PlainBook {
    static final int BAD = -1, FULL = -2, FINDING = -3, STATE = -4, NONE = -9;

    private static final class Refusal extends RuntimeException {
        private static final long serialVersionUID = 1;
        final int answer;

        Refusal(int answer) {
            super(null, null, false, false);
            this.answer = answer;
        }
    }

    private static final class Thing {
        int kind, sort, worth;
        Thing whole, on;
    }

    private record Act(int sort, Thing a, Thing b, boolean sure) {
    }

    private static final class Death {
        int place, year, told;
        List<Act> acts = new ArrayList<>();

        List<Act> doubtful() {
            return acts.stream().filter(act -> !act.sure).toList();
        }

        int readings() {
            return 1 << doubtful().size();
        }

        List<Act> so(int reading) {
            List<Act> so = new ArrayList<>();
            for (Act act : acts) {
                if (act.sure) so.add(act);
            }
            List<Act> doubtful = doubtful();
            for (int i = 0; i < doubtful.size(); i++) {
                if ((reading & 1 << i) != 0) so.add(doubtful.get(i));
            }
            return so;
        }
    }

    private record Text(int year, int rule, boolean stood, int free) {
    }

    private record Grant(int lord, int place, int from, int to, int sorts, int twelfths) {
    }

    private final int[][] rows = new int[6][];
    private final List<Thing> things = new ArrayList<>();
    private final List<Death> deaths = new ArrayList<>();
    private final List<Text> texts = new ArrayList<>();
    private final List<Grant> grants = new ArrayList<>();
    private final int[] findings = new int[6];
    private int finding = 0, asked = 0;
    private long upper = 0, lower = 1;

    /** One call, by the name of the face; booleans are 1 or 0. */
    long call(String name, int... p) {
        try {
            return answer(name, p);
        } catch (Refusal refusal) {
            return refusal.answer;
        }
    }

    private long answer(String name, int[] p) {
        switch (name) {
            case "row": return row(p[0], p[1]);
            case "lay": return lay(p[0], p[1], p[2]);
            case "tear": return tear(p[0]);
            case "copy": return copy(p[0], p[1], p[2], p[3], p[4]);
            case "thing": return thing(p[0], p[1], p[2], p[3]);
            case "on": return on(p[0], p[1]);
            case "told": return told(p[0], p[1]);
            case "mark": return mark(p[0], p[1]);
            case "worth": return worth(p[0], p[1]);
            case "mean": return mean(p[0]);
            case "death": return death(p[0], p[1], p[2]);
            case "act": return act(p[0], p[1], p[2], p[3], p[4] == 1);
            case "acts": return acts(p[0], p[1]);
            case "deathTold": return tell(fact(deathOf(p[0]), p[1]), 1);
            case "moving": return tellThings(moving(readingOf(p[0], p[1])));
            case "blame": return tellThings(blame(readingOf(p[0], p[1])));
            case "text": return text(p[0], p[1], p[2] == 1, p[3]);
            case "inForce": return inForce(p[0]);
            case "forfeit": return forfeit(p[0], p[1], p[2]);
            case "value": return valueOf(p[0], p[1]);
            case "sure": return sure(deathOf(p[0]), p[1] == 1);
            case "due": return tell(dueReading(deathOf(p[0]), now(deathOf(p[0]))), due(deathOf(p[0])));
            case "unlike": return unlike(deathOf(p[0]), -1, false);
            case "settle": return settle(deathOf(p[0]));
            default: return later(name, p);
        }
    }

    private long later(String name, int[] p) {
        switch (name) {
            case "jury": return jury(p[0], p[1]);
            case "habit": return habit(p[0], p[1], p[2]);
            case "worstPlace": return worstPlace(p[0], p[1]);
            case "shortfall": return shortfall(p[0], p[1]);
            case "grant": return grant(p[0], p[1], p[2], p[3], p[4], p[5]);
            case "taker": return taker(p[0], p[1]);
            case "takes": return takes(p[0], p[1], p[2]);
            case "otherwise": return tellBits(otherwise(change(p[0], p[1] == 1, p[2])));
            case "freed": return tellBits(freed(change(p[0], p[1] == 1, p[2])));
            case "shift": return shift(p[0], p[1] == 1, p[2], p[3]);
            case "leastChange": return leastChange(p[0], p[1]);
            case "asked": return asked;
            case "upper": return upper;
            case "lower": return lower;
            case "count": return count(p[0]);
            case "finding": return finding;
            case "findings": return findings[between(p[0], 1, 5)];
            case "digest": return digest();
            default: throw new IllegalStateException(name);
        }
    }

    private static int between(int n, int least, int most) {
        if (n < least || n > most) throw new Refusal(BAD);
        return n;
    }

    private static void years(int from, int to) {
        between(from, 1000, 1900);
        between(to, 1000, 1900);
        between(from, 1000, to);
    }

    private Refusal found(int which) {
        finding = which;
        findings[which]++;
        return new Refusal(FINDING);
    }

    private int tell(int what, int answer) {
        asked = what;
        return answer;
    }

    private int tellThings(Set<Thing> set) {
        return tell(bits(set), set.size());
    }

    private int tellBits(Set<Integer> numbers) {
        int sum = 0;
        for (int n : numbers) {
            sum += 1 << n;
        }
        return tell(sum, numbers.size());
    }

    private int bits(Set<Thing> set) {
        int sum = 0;
        for (Thing t : set) {
            sum += 1 << things.indexOf(t);
        }
        return sum;
    }

    private Thing thingOf(int t) {
        return things.get(between(t, 0, things.size() - 1));
    }

    private Death deathOf(int d) {
        return deaths.get(between(d, 0, deaths.size() - 1));
    }

    private List<Act> readingOf(int d, int reading) {
        Death death = deathOf(d);
        return death.so(between(reading, 0, death.readings() - 1));
    }

    private int row(int r, int n) {
        between(r, 0, 5);
        if (n > 40) throw new Refusal(BAD);
        if (n < 0) throw found(5);
        rows[r] = new int[n];
        return n;
    }

    private int[] rowOf(int r) {
        if (rows[r] == null) throw found(1);
        return rows[r];
    }

    private int lay(int r, int i, int v) {
        between(r, 0, 5);
        int[] row = rowOf(r);
        if (i < 0 || i >= row.length) throw found(2);
        tell(row[i], 1);
        row[i] = v;
        return 1;
    }

    private int tear(int r) {
        between(r, 0, 5);
        rowOf(r);
        rows[r] = null;
        return 1;
    }

    private int copy(int r, int i, int to, int j, int n) {
        between(r, 0, 5);
        between(to, 0, 5);
        if (n < 0) throw found(5);
        int[] source = rowOf(r);
        int[] target = rowOf(to);
        if (i < 0 || j < 0 || (long) i + n > source.length || (long) j + n > target.length) throw found(2);
        int[] taken = source.clone();
        for (int k = 0; k < n; k++) {
            target[j + k] = taken[i + k];
        }
        return 1;
    }

    private int thing(int kind, int sort, int worth, int whole) {
        Thing t = new Thing();
        t.kind = between(kind, 0, 3);
        t.sort = between(sort, 0, 9);
        t.worth = between(worth, 0, 10000);
        t.whole = whole == NONE ? null : thingOf(whole);
        if (things.size() == 20) throw new Refusal(FULL);
        things.add(t);
        return things.size() - 1;
    }

    private int on(int t, int other) {
        Thing lies = thingOf(t);
        Thing beneath = other == NONE ? null : thingOf(other);
        if (lies == beneath) throw new Refusal(BAD);
        for (Thing next = beneath; next != null; next = next.on) {
            if (next == lies) throw new Refusal(STATE);
        }
        int was = things.indexOf(lies.on);
        lies.on = beneath;
        return was < 0 ? NONE : was;
    }

    private int number(Thing t) {
        return t == null ? NONE : things.indexOf(t);
    }

    private static Thing top(Thing t) {
        return t.whole == null ? t : top(t.whole);
    }

    private int price(Thing t) {
        int sum = t.worth;
        for (Thing part : things) {
            if (part.whole == t) sum += price(part);
        }
        return sum;
    }

    private int fact(Thing t, int what) {
        int[] facts = {t.kind, t.sort, t.worth, number(t.whole), number(top(t)), price(t), number(t.on)};
        return facts[between(what, 0, 6)];
    }

    private int told(int t, int what) {
        return tell(fact(thingOf(t), what), 1);
    }

    private int mark(int t, int kind) {
        Thing thing = thingOf(t);
        between(kind, 1, 3);
        if (thing.kind != kind && !(thing.kind == 2 && kind == 1)) throw found(3);
        int sum = 0;
        for (Death death : deaths) {
            if (death.acts.stream().anyMatch(act -> act.a == thing && marks(act.sort, kind))) sum++;
        }
        return sum;
    }

    private static boolean marks(int actSort, int kind) {
        return kind == 1 && actSort == 0 || kind == 2 && actSort == 1 || kind == 3 && actSort >= 2;
    }

    private int worth(int t, int w) {
        Thing thing = thingOf(t);
        between(w, 0, 10000);
        int was = thing.worth;
        thing.worth = w;
        return was;
    }

    private int mean(int sort) {
        between(sort, 0, 9);
        List<Thing> alike = things.stream().filter(t -> t.sort == sort).toList();
        if (alike.isEmpty()) throw found(4);
        return tell(alike.stream().mapToInt(t -> t.worth).sum() / alike.size(), 1);
    }

    private static int toldWorth(int v) {
        return v == NONE ? v : between(v, 0, 100000);
    }

    private int death(int place, int year, int told) {
        Death d = new Death();
        d.place = between(place, 0, 7);
        d.year = between(year, 1000, 1900);
        d.told = toldWorth(told);
        if (deaths.size() == 12) throw new Refusal(FULL);
        deaths.add(d);
        return deaths.size() - 1;
    }

    private Act newAct(int sort, int a, int b, boolean sure) {
        between(sort, 0, 3);
        Thing first = thingOf(a);
        Thing second = sort == 1 ? thingOf(b) : null;
        if (first == second) throw new Refusal(BAD);
        return new Act(sort, first, second, sure);
    }

    private int act(int death, int sort, int a, int b, boolean sure) {
        Death d = deathOf(death);
        Act act = newAct(sort, a, b, sure);
        if (d.acts.size() == 10 || !sure && d.doubtful().size() == 5) throw new Refusal(FULL);
        d.acts.add(act);
        return d.acts.size();
    }

    private int acts(int death, int r) {
        Death d = deathOf(death);
        between(r, 0, 5);
        int[] row = rowOf(r);
        if (row.length % 4 != 0) throw found(5);
        Death made = new Death();
        for (int i = 0; i < row.length; i += 4) {
            try {
                made.acts.add(newAct(row[i], row[i + 1], row[i + 2], between(row[i + 3], 0, 1) == 1));
            } catch (Refusal refusal) {
                throw found(3);
            }
        }
        if (made.doubtful().size() > 5) throw found(3);
        d.acts = made.acts;
        return d.acts.size();
    }

    private static int fact(Death d, int what) {
        int[] facts = {d.place, d.year, d.told, d.acts.size(), d.doubtful().size(), d.readings()};
        return facts[between(what, 0, 5)];
    }

    private Set<Thing> moving(List<Act> so) {
        Set<Thing> moving = new HashSet<>();
        for (Act act : so) {
            if (act.sort == 0 && (act.a.kind == 1 || act.a.kind == 2)) moving.add(act.a);
        }
        boolean grew = true;
        while (grew) {
            grew = false;
            for (Act act : so) {
                if (act.sort == 1 && moving.contains(act.a) && act.b.kind != 3) grew |= moving.add(act.b);
            }
            for (Thing t : things) {
                boolean borne = t.whole != null && moving.contains(t.whole) || t.on != null && moving.contains(t.on);
                if (borne && t.kind != 3) grew |= moving.add(t);
            }
        }
        return moving;
    }

    private static Set<Thing> hit(List<Act> so) {
        Set<Thing> hit = new HashSet<>();
        for (Act act : so) {
            if (act.sort == 2 || act.sort == 3) hit.add(act.a);
        }
        return hit;
    }

    private Set<Thing> blame(List<Act> so) {
        Set<Thing> moving = moving(so);
        Set<Thing> blame = hit(so);
        blame.retainAll(moving);
        boolean grew = true;
        while (grew) {
            grew = false;
            for (Act act : so) {
                if (act.sort == 1 && blame.contains(act.b) && moving.contains(act.a)) grew |= blame.add(act.a);
            }
            for (Thing t : things) {
                if (!blame.contains(t)) continue;
                if (t.whole != null && moving.contains(t.whole)) grew |= blame.add(t.whole);
                if (t.on != null && moving.contains(t.on)) grew |= blame.add(t.on);
            }
        }
        return blame;
    }

    private int text(int year, int rule, boolean stood, int free) {
        between(year, 1000, 1900);
        Text text = new Text(year, between(rule, 0, 3), stood, between(free, 0, 1023));
        if (texts.size() == 8) throw new Refusal(FULL);
        texts.add(text);
        return texts.size() - 1;
    }

    private int inForce(int year) {
        between(year, 1000, 1900);
        for (int y = year; y >= 1000; y--) {
            for (int n = texts.size() - 1; n >= 0; n--) {
                if (texts.get(n).year == y) return n;
            }
        }
        return NONE;
    }

    private Text now(Death d) {
        int n = inForce(d.year);
        return n == NONE ? null : texts.get(n);
    }

    private static Text change(int rule, boolean stood, int free) {
        return new Text(1000, between(rule, 0, 3), stood, between(free, 0, 1023));
    }

    private Set<Thing> forfeit(List<Act> so, Text text) {
        if (text == null) return Set.of();
        Set<Thing> moving = moving(so);
        Set<Thing> counts = text.rule >= 2 ? blame(so) : new HashSet<>();
        for (Thing t : hit(so)) {
            if (text.stood && !moving.contains(t)) counts.add(t);
            if (text.rule < 2 && moving.contains(t)) counts.add(t);
        }
        Set<Thing> left = new HashSet<>();
        for (Thing t : counts) {
            Thing falls = text.rule % 2 == 0 ? top(t) : t;
            if ((text.free & 1 << falls.sort) == 0) left.add(falls);
        }
        Set<Thing> forfeit = new HashSet<>(left);
        for (Thing t : left) {
            for (Thing whole = t.whole; whole != null; whole = whole.whole) {
                if (left.contains(whole)) forfeit.remove(t);
            }
        }
        return forfeit;
    }

    private int forfeit(int d, int reading, int text) {
        List<Act> so = readingOf(d, reading);
        return tellThings(forfeit(so, texts.get(between(text, 0, texts.size() - 1))));
    }

    private int value(Set<Thing> set) {
        int sum = 0;
        for (Thing t : set) {
            sum += price(t);
        }
        return sum;
    }

    private int valueOf(int d, int reading) {
        Set<Thing> set = forfeit(readingOf(d, reading), now(deathOf(d)));
        return tell(bits(set), value(set));
    }

    private int sure(Death d, boolean maybe) {
        Set<Thing> set = new HashSet<>();
        for (Thing t : things) {
            int in = 0;
            for (int reading = 0; reading < d.readings(); reading++) {
                if (forfeit(d.so(reading), now(d)).contains(t)) in++;
            }
            if (maybe ? in > 0 : in == d.readings()) set.add(t);
        }
        return tellThings(set);
    }

    private int dueReading(Death d, Text text) {
        int best = 0;
        int least = Integer.MAX_VALUE;
        for (int reading = 0; reading < d.readings(); reading++) {
            int value = value(forfeit(d.so(reading), text));
            if (value < least) {
                least = value;
                best = reading;
            }
        }
        return best;
    }

    private Set<Thing> dueSet(Death d, Text text) {
        return forfeit(d.so(dueReading(d, text)), text);
    }

    private int due(Death d) {
        return value(dueSet(d, now(d)));
    }

    private int unlike(Death d, int doubt, boolean known) {
        Set<Set<Thing>> sets = new HashSet<>();
        for (int reading = 0; reading < d.readings(); reading++) {
            if (doubt >= 0 && (reading >> doubt & 1) != (known ? 1 : 0)) continue;
            sets.add(forfeit(d.so(reading), now(d)));
        }
        return sets.size();
    }

    private int settle(Death d) {
        int best = NONE;
        int fewest = Integer.MAX_VALUE;
        int doubt = -1;
        for (int k = 0; k < d.acts.size(); k++) {
            if (d.acts.get(k).sure) continue;
            doubt++;
            int left = Math.max(unlike(d, doubt, true), unlike(d, doubt, false));
            if (left < fewest) {
                fewest = left;
                best = k;
            }
        }
        return best == NONE ? NONE : tell(fewest, best);
    }

    private int jury(int d, int v) {
        Death death = deathOf(d);
        int was = death.told;
        death.told = toldWorth(v);
        return was;
    }

    /** Throws every coin in every way; null if there is none to throw. */
    private BigInteger[] chance(int place, int from, int to) {
        int n = 0;
        int k = 0;
        for (Death d : deaths) {
            if (d.place != place || d.year < from || d.year > to || d.told == NONE || due(d) == 0) continue;
            n++;
            if (d.told < due(d) / 2.0) k++;
        }
        if (n == 0) return null;
        int ways = 0;
        for (int fall = 0; fall < 1 << n; fall++) {
            if (Integer.bitCount(fall) >= k) ways++;
        }
        BigInteger up = BigInteger.valueOf(ways);
        BigInteger low = BigInteger.valueOf(1 << n);
        return new BigInteger[] {up.divide(up.gcd(low)), low.divide(up.gcd(low))};
    }

    private int habit(int place, int from, int to) {
        between(place, 0, 7);
        years(from, to);
        BigInteger[] chance = chance(place, from, to);
        if (chance == null) throw found(4);
        upper = chance[0].longValue();
        lower = chance[1].longValue();
        return (double) upper / lower < 0.05 ? 1 : 0;
    }

    private int worstPlace(int from, int to) {
        years(from, to);
        int worst = NONE;
        double least = 2;
        for (int place = 0; place < 8; place++) {
            BigInteger[] chance = chance(place, from, to);
            if (chance == null) continue;
            double told = chance[0].doubleValue() / chance[1].doubleValue();
            if (told < least) {
                least = told;
                worst = place;
            }
        }
        return worst;
    }

    private List<Death> within(int from, int to) {
        years(from, to);
        return deaths.stream().filter(d -> from <= d.year && d.year <= to).toList();
    }

    private int shortfall(int from, int to) {
        List<Death> told = within(from, to).stream().filter(d -> d.told != NONE).toList();
        return tell(told.stream().mapToInt(d -> due(d) - d.told).sum(), told.size());
    }

    private int grant(int lord, int place, int from, int to, int sorts, int twelfths) {
        years(from, to);
        Grant grant = new Grant(between(lord, 0, 7), between(place, 0, 7), from, to, between(sorts, 0, 1023),
            between(twelfths, 1, 12));
        if (grants.size() == 10) throw new Refusal(FULL);
        grants.add(grant);
        return grants.size();
    }

    private Grant grantFor(Death d, Thing t) {
        return grants.stream().filter(g -> g.place == d.place && g.from <= d.year && d.year <= g.to
            && (g.sorts & 1 << t.sort) != 0).findFirst().orElse(null);
    }

    private int taker(int d, int t) {
        Death death = deathOf(d);
        Thing thing = thingOf(t);
        if (!dueSet(death, now(death)).contains(thing)) return NONE;
        Grant grant = grantFor(death, thing);
        if (grant == null) return tell(price(thing), 9);
        return tell((int) Math.floor(price(thing) * grant.twelfths / 12.0), grant.lord);
    }

    private int takes(int lord, int from, int to) {
        if (lord != 9) between(lord, 0, 7);
        int sum = 0;
        int some = 0;
        for (Death d : within(from, to)) {
            int taken = 0;
            for (Thing t : dueSet(d, now(d))) {
                Grant grant = grantFor(d, t);
                int lords = grant == null ? 0 : price(t) * grant.twelfths / 12;
                if (lord == 9) taken += price(t) - lords;
                else if (grant != null && grant.lord == lord) taken += lords;
            }
            sum += taken;
            if (taken != 0) some++;
        }
        return tell(sum, some);
    }

    private Set<Integer> otherwise(Text change) {
        Set<Integer> numbers = new TreeSet<>();
        for (Death d : deaths) {
            if (!dueSet(d, now(d)).equals(dueSet(d, change))) numbers.add(deaths.indexOf(d));
        }
        return numbers;
    }

    private Set<Integer> freed(Text change) {
        Set<Integer> numbers = new TreeSet<>();
        for (Death d : deaths) {
            if (!dueSet(d, now(d)).isEmpty() && dueSet(d, change).isEmpty()) numbers.add(deaths.indexOf(d));
        }
        return numbers;
    }

    private int valueOfSort(Set<Thing> set, int sort) {
        int sum = 0;
        for (Thing t : set) {
            if (sort == 10 || t.sort == sort) sum += price(t);
        }
        return sum;
    }

    private int shift(int rule, boolean stood, int free, int sort) {
        Text change = change(rule, stood, free);
        between(sort, 0, 10);
        int sum = 0;
        for (Death d : deaths) {
            sum += valueOfSort(dueSet(d, change), sort) - valueOfSort(dueSet(d, now(d)), sort);
        }
        return tell(sum, 1);
    }

    private int leastChange(int sort, int free) {
        between(sort, 0, 9);
        between(free, 0, 1023);
        Set<Integer> wanted = new TreeSet<>();
        for (Death d : deaths) {
            Set<Thing> falls = dueSet(d, now(d));
            if (!falls.isEmpty() && falls.stream().allMatch(t -> t.sort == sort)) wanted.add(deaths.indexOf(d));
        }
        int without = (free | 1 << sort) - (1 << sort);
        for (int rule = 0; rule < 4; rule++) {
            for (int stood = 0; stood < 2; stood++) {
                for (int with = 0; with < 2; with++) {
                    Text change = new Text(1000, rule, stood == 1, without + (with << sort));
                    Set<Integer> others = otherwise(change);
                    others.removeAll(wanted);
                    if (freed(change).equals(wanted) && others.isEmpty()) return 100 * rule + 10 * stood + with;
                }
            }
        }
        return NONE;
    }

    private int count(int what) {
        int there = 0;
        for (int[] row : rows) {
            if (row != null) there++;
        }
        int acts = deaths.stream().mapToInt(d -> d.acts.size()).sum();
        int[] counts = {things.size(), deaths.size(), acts, texts.size(), grants.size(), there};
        return counts[between(what, 0, 5)];
    }

    private long digest() {
        List<Integer> told = new ArrayList<>();
        for (int what = 0; what < 6; what++) told.add(count(what));
        for (Thing t : things) {
            for (int what = 0; what < 7; what++) told.add(fact(t, what));
        }
        for (Death d : deaths) {
            for (int what = 0; what < 6; what++) told.add(fact(d, what));
            for (Act act : d.acts) told.addAll(List.of(act.sort, number(act.a), number(act.b), act.sure ? 1 : 0));
        }
        for (Text text : texts) told.addAll(List.of(text.year, text.rule, text.stood ? 1 : 0, text.free));
        for (Grant g : grants) told.addAll(List.of(g.lord, g.place, g.from, g.to, g.sorts, g.twelfths));
        for (int[] row : rows) {
            told.add(row == null ? -1 : row.length);
            if (row == null) continue;
            for (int v : row) told.add(v);
        }
        long h = 17;
        for (int v : told) h = 31 * h + v;
        return h;
    }
}
