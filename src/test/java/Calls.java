/** Calls of ForfeitBook by the names of the face; booleans are 1 or 0. */
final class Calls {
    private Calls() {
    }

    static long make(ForfeitBook x, String name, int... p) {
        switch (name) {
            case "row": return x.row(p[0], p[1]);
            case "lay": return x.lay(p[0], p[1], p[2]);
            case "tear": return x.tear(p[0]);
            case "copy": return x.copy(p[0], p[1], p[2], p[3], p[4]);
            case "thing": return x.thing(p[0], p[1], p[2], p[3]);
            case "on": return x.on(p[0], p[1]);
            case "told": return x.told(p[0], p[1]);
            case "mark": return x.mark(p[0], p[1]);
            case "worth": return x.worth(p[0], p[1]);
            case "mean": return x.mean(p[0]);
            case "death": return x.death(p[0], p[1], p[2]);
            case "act": return x.act(p[0], p[1], p[2], p[3], p[4] == 1);
            case "acts": return x.acts(p[0], p[1]);
            case "deathTold": return x.deathTold(p[0], p[1]);
            case "moving": return x.moving(p[0], p[1]);
            case "blame": return x.blame(p[0], p[1]);
            case "text": return x.text(p[0], p[1], p[2] == 1, p[3]);
            case "inForce": return x.inForce(p[0]);
            case "forfeit": return x.forfeit(p[0], p[1], p[2]);
            case "value": return x.value(p[0], p[1]);
            case "sure": return x.sure(p[0], p[1] == 1);
            case "due": return x.due(p[0]);
            default: return later(x, name, p);
        }
    }

    private static long later(ForfeitBook x, String name, int[] p) {
        switch (name) {
            case "unlike": return x.unlike(p[0]);
            case "settle": return x.settle(p[0]);
            case "jury": return x.jury(p[0], p[1]);
            case "habit": return x.habit(p[0], p[1], p[2]);
            case "worstPlace": return x.worstPlace(p[0], p[1]);
            case "shortfall": return x.shortfall(p[0], p[1]);
            case "grant": return x.grant(p[0], p[1], p[2], p[3], p[4], p[5]);
            case "taker": return x.taker(p[0], p[1]);
            case "takes": return x.takes(p[0], p[1], p[2]);
            case "otherwise": return x.otherwise(p[0], p[1] == 1, p[2]);
            case "freed": return x.freed(p[0], p[1] == 1, p[2]);
            case "shift": return x.shift(p[0], p[1] == 1, p[2], p[3]);
            case "leastChange": return x.leastChange(p[0], p[1]);
            case "asked": return x.asked();
            case "upper": return x.upper();
            case "lower": return x.lower();
            case "count": return x.count(p[0]);
            case "finding": return x.finding();
            case "findings": return x.findings(p[0]);
            case "digest": return x.digest();
            default: throw new IllegalStateException(name);
        }
    }
}
