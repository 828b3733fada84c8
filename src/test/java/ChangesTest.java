/** Promises 33 to 36: otherwise, freed, shift, leastChange. */
public final class ChangesTest {
    private static final int NONE = ForfeitBook.NONE;
    private static final int GOES = 0, MOVES = 1, STRIKES = 2, FELL = 3;

    public static void main(String[] args) {
        otherwise();
        freed();
        twelveDeaths();
        shift();
        refused();
        leastChange();
        leastChangeByBlame();
        leastChangeWithoutDeaths();
        leastChangeOfMixedSorts();
        leastChangeUndoneByALaterDeath();
        Check.end();
    }

    /** An OX 0, a CART 1 with a WHEEL 2, a HOUSE 3 and a DOG 4 of the OX's SORT; rule 3 is IN FORCE from 1500 on. */
    private static ForfeitBook book() {
        ForfeitBook x = new ForfeitBook();
        x.thing(1, 0, 1, NONE);
        x.thing(0, 1, 2, NONE);
        x.thing(0, 2, 4, 1);
        x.thing(3, 3, 8, NONE);
        x.thing(1, 0, 16, NONE);
        x.text(1500, 3, false, 0);
        x.death(0, 1400, NONE);
        x.act(0, FELL, 3, 0, true);
        x.death(0, 1500, NONE);
        x.act(1, GOES, 0, 0, true);
        x.act(1, MOVES, 0, 1, true);
        x.act(1, STRIKES, 2, 0, true);
        x.death(0, 1600, NONE);
        x.act(2, GOES, 4, 0, true);
        x.act(2, STRIKES, 4, 0, true);
        x.death(0, 1700, NONE);
        x.act(3, FELL, 3, 0, true);
        x.death(0, 1800, NONE);
        x.act(4, GOES, 4, 0, false);
        x.act(4, STRIKES, 4, 0, true);
        return x;
    }

    private static void otherwise() {
        ForfeitBook x = book();
        Check.told(x, "the same law", () -> x.otherwise(3, false, 0), 0, 0);
        Check.told(x, "what STOOD, too, for all YEARS", () -> x.otherwise(3, true, 0), 3, 1 | 8 | 16);
        Check.told(x, "TOPS of what is HIT", () -> x.otherwise(0, false, 0), 1, 2);
        Check.told(x, "what is HIT", () -> x.otherwise(1, false, 0), 1, 2);
        Check.told(x, "TOPS of what is TO BLAME", () -> x.otherwise(2, false, 0), 0, 0);
        Check.told(x, "a free SORT", () -> x.otherwise(3, false, 1), 2, 2 | 4);
        Check.told(x, "a free SORT that is not forfeit", () -> x.otherwise(3, false, 8), 0, 0);
        Check.told(x, "a free SORT of a PART", () -> x.otherwise(3, false, 4), 0, 0);
        Check.told(x, "all SORTS free", () -> x.otherwise(3, true, 1023), 2, 2 | 4);
        Check.told(x, "the law is not changed by it", () -> x.otherwise(3, false, 0), 0, 0);
        Check.due("count(3)", x.count(3), 1);
    }

    private static void freed() {
        ForfeitBook x = book();
        Check.told(x, "the same law", () -> x.freed(3, false, 0), 0, 0);
        Check.told(x, "what STOOD, too", () -> x.freed(3, true, 0), 0, 0);
        Check.told(x, "a free SORT", () -> x.freed(3, false, 1), 1, 4);
        Check.told(x, "a free CART leaves its WHEEL", () -> x.freed(3, false, 3), 1, 4);
        Check.told(x, "three free SORTS", () -> x.freed(3, false, 7), 2, 2 | 4);
        Check.told(x, "a free CART as the TOP", () -> x.freed(0, false, 2), 1, 2);
        Check.told(x, "a free CART, the WHEEL is HIT", () -> x.freed(1, false, 2), 0, 0);
        Check.told(x, "a free WHEEL", () -> x.freed(1, false, 4), 1, 2);
        Check.told(x, "all SORTS free", () -> x.freed(2, true, 1023), 2, 2 | 4);
    }

    private static void twelveDeaths() {
        ForfeitBook x = new ForfeitBook();
        x.thing(3, 9, 7, NONE);
        x.text(1000, 1, true, 0);
        for (int d = 0; d < 12; d++) {
            x.death(d % 8, 1900 - d, NONE);
            x.act(d, FELL, 0, 0, true);
        }
        Check.told(x, "otherwise, twelve", () -> x.otherwise(3, false, 0), 12, 4095);
        Check.told(x, "freed, twelve", () -> x.freed(0, true, 512), 12, 4095);
        Check.told(x, "shift, twelve", () -> x.shift(0, false, 0, 9), 1, -84);
        Check.still(x, "leastChange, twelve", () -> x.leastChange(9, 0), 0);
        Check.still(x, "leastChange of another SORT", () -> x.leastChange(8, 0), 10);
    }

    private static void shift() {
        ForfeitBook x = book();
        Check.told(x, "the same law", () -> x.shift(3, false, 0, 10), 1, 0);
        Check.told(x, "what STOOD, too", () -> x.shift(3, true, 0, 10), 1, 32);
        Check.told(x, "what STOOD, too, HOUSES", () -> x.shift(3, true, 0, 3), 1, 16);
        Check.told(x, "what STOOD, too, DOGS", () -> x.shift(3, true, 0, 0), 1, 16);
        Check.told(x, "what STOOD, too, CARTS", () -> x.shift(3, true, 0, 1), 1, 0);
        Check.told(x, "what is HIT", () -> x.shift(1, false, 0, 10), 1, -3);
        Check.told(x, "what is HIT, the OX", () -> x.shift(1, false, 0, 0), 1, -1);
        Check.told(x, "what is HIT, CARTS with their PARTS", () -> x.shift(1, false, 0, 1), 1, -6);
        Check.told(x, "what is HIT, WHEELS", () -> x.shift(1, false, 0, 2), 1, 4);
        Check.told(x, "a free SORT", () -> x.shift(3, false, 1, 10), 1, -17);
        Check.told(x, "a free SORT, of that", () -> x.shift(3, false, 1, 0), 1, -17);
        Check.told(x, "a free SORT, of another", () -> x.shift(3, false, 1, 1), 1, 0);
        Check.told(x, "a SORT of no THING", () -> x.shift(3, true, 0, 9), 1, 0);
    }

    private static void refused() {
        ForfeitBook x = book();
        x.otherwise(3, true, 0);
        int[][] laws = {{-1, 0}, {4, 0}, {0, -1}, {0, 1024}, {NONE, NONE}, {Integer.MAX_VALUE, Integer.MIN_VALUE}};
        for (int[] law : laws) {
            String told = "(" + law[0] + ", true, " + law[1] + ")";
            Check.bad(x, "otherwise" + told, () -> x.otherwise(law[0], true, law[1]));
            Check.bad(x, "freed" + told, () -> x.freed(law[0], true, law[1]));
            Check.bad(x, "shift" + told, () -> x.shift(law[0], true, law[1], 0));
        }
        Check.bad(x, "shift, SORT -1", () -> x.shift(0, true, 0, -1));
        Check.bad(x, "shift, SORT 11", () -> x.shift(0, true, 0, 11));
        Check.bad(x, "shift, SORT NONE", () -> x.shift(0, true, 0, NONE));
        Check.bad(x, "leastChange(-1, 0)", () -> x.leastChange(-1, 0));
        Check.bad(x, "leastChange(10, 0)", () -> x.leastChange(10, 0));
        Check.bad(x, "leastChange(0, -1)", () -> x.leastChange(0, -1));
        Check.bad(x, "leastChange(0, 1024)", () -> x.leastChange(0, 1024));
    }

    private static void least(ForfeitBook x, int sort, int free, int due) {
        Check.still(x, "leastChange(" + sort + ", " + free + ")", () -> x.leastChange(sort, free), due);
    }

    private static void leastChange() {
        ForfeitBook x = new ForfeitBook();
        x.thing(1, 0, 1, NONE);
        x.thing(1, 1, 1, NONE);
        x.thing(3, 2, 1, NONE);
        x.thing(0, 3, 1, NONE);
        x.thing(0, 4, 1, 3);
        x.text(1000, 1, true, 0);
        for (int d = 0; d < 2; d++) {
            x.death(0, 1500, NONE);
            x.act(d, GOES, d, 0, true);
            x.act(d, STRIKES, d, 0, true);
        }
        least(x, 0, 0, 1);
        least(x, 0, 1, 1);
        least(x, 0, 2, NONE);
        least(x, 1, 0, 1);
        least(x, 2, 0, 0);
        least(x, 2, 4, 0);
        x.death(0, 1500, NONE);
        x.act(2, FELL, 2, 0, true);
        least(x, 0, 0, 11);
        least(x, 2, 0, 0);
        least(x, 1, 1, NONE);
        x.death(0, 1500, NONE);
        x.act(3, GOES, 1, 0, true);
        x.act(3, MOVES, 1, 3, true);
        x.act(3, STRIKES, 4, 0, true);
        least(x, 0, 0, 111);
        least(x, 1, 0, 111);
        least(x, 2, 0, 100);
        least(x, 3, 0, 110);
        least(x, 3, 8, 110);
        least(x, 4, 0, 111);
        least(x, 9, 0, 110);
        least(x, 9, 512, 110);
        least(x, 9, 16, NONE);
        x.death(0, 1500, NONE);
        least(x, 4, 0, 111);
        x.death(0, 1500, NONE);
        x.act(5, GOES, 0, 0, false);
        x.act(5, STRIKES, 0, 0, false);
        least(x, 4, 0, 111);
    }

    private static void leastChangeByBlame() {
        ForfeitBook x = new ForfeitBook();
        x.thing(1, 0, 1, NONE);
        x.thing(0, 1, 1, NONE);
        x.thing(0, 2, 1, 1);
        x.thing(1, 5, 1, NONE);
        x.thing(3, 6, 1, NONE);
        x.text(1000, 3, false, 0);
        x.death(0, 1500, NONE);
        x.act(0, GOES, 0, 0, true);
        x.act(0, MOVES, 0, 1, true);
        x.act(0, STRIKES, 2, 0, true);
        x.death(0, 1500, NONE);
        x.act(1, GOES, 3, 0, true);
        x.act(1, STRIKES, 3, 0, true);
        least(x, 5, 0, 201);
        least(x, 6, 0, 200);
        x.death(0, 1500, NONE);
        x.act(2, GOES, 0, 0, true);
        x.act(2, MOVES, 0, 2, true);
        x.act(2, STRIKES, 2, 0, true);
        least(x, 5, 0, 301);
        least(x, 6, 0, 300);
        x.text(1000, 3, true, 0);
        x.death(0, 1500, NONE);
        x.act(3, FELL, 4, 0, true);
        least(x, 5, 0, 311);
        least(x, 6, 0, 300);
        least(x, 7, 0, 310);
    }

    private static void leastChangeWithoutDeaths() {
        ForfeitBook x = new ForfeitBook();
        least(x, 0, 0, 0);
        least(x, 9, 1023, 0);
    }

    /** A DEATH with forfeit THINGS of two SORTS is not to be freed, and must stay as it is. */
    private static void leastChangeOfMixedSorts() {
        ForfeitBook x = new ForfeitBook();
        x.thing(3, 0, 1, NONE);
        x.thing(3, 1, 1, NONE);
        x.thing(3, 0, 1, NONE);
        x.text(1000, 1, true, 0);
        x.death(0, 1500, NONE);
        x.act(0, STRIKES, 0, 0, true);
        x.act(0, STRIKES, 2, 0, true);
        least(x, 0, 0, 0);
        least(x, 1, 0, 10);
        x.death(0, 1500, NONE);
        x.act(1, STRIKES, 0, 0, true);
        x.act(1, STRIKES, 1, 0, true);
        least(x, 0, 0, NONE);
        least(x, 1, 0, 10);
        least(x, 2, 0, 10);
    }

    /** The first DEATH leaves no CHANGE but the very first one, and a later DEATH not even that. */
    private static void leastChangeUndoneByALaterDeath() {
        ForfeitBook y = new ForfeitBook();
        y.thing(1, 0, 1, NONE);
        y.thing(0, 1, 2, NONE);
        y.thing(0, 2, 4, 1);
        y.thing(3, 3, 8, NONE);
        y.thing(1, 4, 16, NONE);
        y.text(1000, 0, false, 0);
        y.text(1600, 0, true, 0);
        y.death(0, 1500, NONE);
        y.act(0, GOES, 0, 0, true);
        y.act(0, GOES, 4, 0, true);
        y.act(0, MOVES, 4, 1, true);
        y.act(0, STRIKES, 2, 0, true);
        y.act(0, STRIKES, 0, 0, true);
        y.act(0, FELL, 3, 0, true);
        least(y, 1, 0, 0);
        y.death(0, 1600, NONE);
        y.act(1, FELL, 3, 0, true);
        least(y, 1, 0, NONE);
        least(y, 3, 0, 0);
    }
}
