/** The second half of the document's terms 2, which TermsBoundaryTest goes through: texts, forfeit, due. */
final class TextsTerms extends Boundary {
    private TextsTerms() {
    }

    static void all() {
        eightTexts();
        rules();
        whatStood();
        freeSorts();
        inForce();
        noneInForce();
        forfeitWithoutFree();
        forfeitWithoutParts();
        value();
        sureAndMaybe();
        due();
    }

    private static void eightTexts() {
        says("2", "TEXTS of the law (8 at most): from a YEAR on");
        within(ForfeitBook::new, 0, 1000, 1900, "text", 1500, 0, MOVED, 0);
        ForfeitBook x = new ForfeitBook();
        for (int n = 0; n < 8; n++) {
            answers(x, n, "text", 1900, 0, MOVED, 0);
        }
        full(x, "text", 1900, 0, MOVED, 0);
        keeps(x, NONE, "inForce", 1899);
        keeps(x, 7, "inForce", 1900);
        answers(x, 8, "count", 3);
    }

    /** A BEAST 0 that goes and moves 1; of 1 the PART 2 strikes. */
    private static ForfeitBook beastAndCart() {
        ForfeitBook x = new ForfeitBook();
        x.thing(BEAST, 0, 1, NONE);
        x.thing(THING, 1, 2, NONE);
        x.thing(THING, 9, 4, 1);
        x.thing(STANDING, 3, 8, NONE);
        x.thing(THING, 4, 16, 3);
        return x;
    }

    private static void rules() {
        says("2", "; a RULE: 0 TOPS of what is HIT, 1 what is HIT, 2 TOPS of what is TO BLAME, 3 what is TO BLAME");
        within(ForfeitBook::new, 1, 0, 3, "text", 1500, 0, MOVED, 0);
        int[] whole = {0b10, 0b100, 0b11, 0b11};
        int[] part = {0b10, 0b100, 0b11, 0b101};
        for (int rule = 0; rule <= 3; rule++) {
            ForfeitBook x = beastAndCart();
            x.text(1500, rule, false, 0);
            int d = die(x, GOES, 0, 0, SURE, MOVES, 0, 1, SURE, STRIKES, 2, 0, SURE);
            tells(x, Integer.bitCount(whole[rule]), whole[rule], "forfeit", d, 0, 0);
            d = die(x, GOES, 0, 0, SURE, MOVES, 0, 2, SURE, STRIKES, 2, 0, SURE);
            tells(x, Integer.bitCount(part[rule]), part[rule], "forfeit", d, 0, 0);
            tells(x, 0, 0, "forfeit", die(x), 0, 0);
        }
    }

    private static void whatStood() {
        says("2", "; by 0 and 1 what is HIT counts only if it is MOVING, unless what STOOD counts, too (1; then by 2"
            + " and 3 what is HIT and not MOVING counts, too)");
        int[] stood = {0b1000, 0b10000, 0b1000, 0b10000};
        int[] both = {0b1001, 0b10001, 0b1001, 0b10001};
        for (int rule = 0; rule <= 3; rule++) {
            ForfeitBook x = beastAndCart();
            x.text(1500, rule, false, 0);
            x.text(1500, rule, true, 0);
            int d = die(x, FELL, 4, 0, SURE);
            tells(x, 0, 0, "forfeit", d, 0, 0);
            tells(x, 1, stood[rule], "forfeit", d, 0, 1);
            d = die(x, FELL, 4, 0, SURE, GOES, 0, 0, SURE, STRIKES, 0, 0, SURE);
            tells(x, 1, 1, "forfeit", d, 0, 0);
            tells(x, 2, both[rule], "forfeit", d, 0, 1);
        }
    }

    private static void freeSorts() {
        says("2", "; SORTS that are free (bits).");
        within(ForfeitBook::new, 3, 0, 1023, "text", 1500, 0, MOVED, 0);
        for (int sort = 0; sort <= 9; sort++) {
            ForfeitBook x = new ForfeitBook();
            x.thing(STANDING, sort, 1, NONE);
            die(x, FELL, 0, 0, SURE);
            x.text(1500, 1, true, 1 << sort);
            x.text(1500, 1, true, 1023 - (1 << sort));
            tells(x, 0, 0, "forfeit", 0, 0, 0);
            tells(x, 1, 1, "forfeit", 0, 0, 1);
        }
    }

    private static void inForce() {
        says("2", "IN FORCE in a YEAR is that of the latest YEAR not after it, of alike ones the last told");
        ForfeitBook x = new ForfeitBook();
        x.text(1501, 0, false, 0);
        x.text(1500, 1, false, 0);
        x.text(1500, 2, false, 0);
        x.text(1000, 3, false, 0);
        x.text(1900, 3, false, 0);
        keeps(x, 3, "inForce", 1000);
        keeps(x, 3, "inForce", 1499);
        keeps(x, 2, "inForce", 1500);
        keeps(x, 0, "inForce", 1501);
        keeps(x, 0, "inForce", 1899);
        keeps(x, 4, "inForce", 1900);
        x.text(1900, 3, false, 0);
        x.text(1000, 3, false, 0);
        keeps(x, 5, "inForce", 1900);
        keeps(x, 6, "inForce", 1499);
        keeps(x, 2, "inForce", 1500);
    }

    private static void noneInForce() {
        says("2", "; none: nothing is forfeit.");
        ForfeitBook x = things(STANDING, 1);
        die(x, FELL, 0, 0, SURE, FELL, 0, 0, DOUBTFUL);
        x.text(1501, 1, true, 0);
        keeps(x, NONE, "inForce", 1500);
        tells(x, 0, 0, "value", 0, 0);
        tells(x, 0, 0, "value", 0, 1);
        tells(x, 0, 0, "sure", 0, 0);
        tells(x, 0, 0, "sure", 0, 1);
        tells(x, 0, 0, "due", 0);
        keeps(x, 1, "unlike", 0);
        tells(x, 1, 1, "settle", 0);
        keeps(x, NONE, "taker", 0, 0);
        x.text(1500, 1, true, 0);
        tells(x, 1, 1, "value", 0, 0);
        x.death(0, 1499, 0);
        x.act(1, FELL, 0, 0, true);
        tells(x, 1, 0, "due", 0);
        tells(x, 0, 0, "due", 1);
        tells(x, 1, 0, "due", 0);
        keeps(x, NONE, "taker", 1, 0);
        finds(x, NOUGHT, "habit", 0, 1000, 1499);
    }

    private static void forfeitWithoutFree() {
        says("2", "FORFEIT in a READING by a TEXT: what counts by it, without THINGS of a free SORT");
        ForfeitBook x = new ForfeitBook();
        for (int t = 0; t < 10; t++) {
            x.thing(STANDING, t, 1, NONE);
        }
        die(x);
        for (int t = 0; t < 10; t++) {
            x.act(0, FELL, t, 0, true);
        }
        int[] free = {0, 1, 1 << 9, 1022, 511, 1023};
        for (int n = 0; n < free.length; n++) {
            x.text(1500, 1, true, free[n]);
            tells(x, 10 - Integer.bitCount(free[n]), 1023 - free[n], "forfeit", 0, 0, n);
        }
    }

    private static void forfeitWithoutParts() {
        says("2", ", and without those of which a WHOLE, at whatever height, is forfeit, too.");
        ForfeitBook x = new ForfeitBook();
        for (int t = 0; t < 20; t++) {
            x.thing(THING, t == 0 ? 0 : 1, 1, t == 0 ? NONE : t - 1);
        }
        x.text(1500, 1, true, 0);
        x.text(1500, 1, true, 1);
        int d = die(x, STRIKES, 19, 0, SURE, STRIKES, 0, 0, SURE);
        tells(x, 1, 1, "forfeit", d, 0, 0);
        tells(x, 1, 1 << 19, "forfeit", d, 0, 1);
        d = die(x, STRIKES, 19, 0, SURE, STRIKES, 18, 0, DOUBTFUL, STRIKES, 1, 0, DOUBTFUL, STRIKES, 0, 0, DOUBTFUL);
        tells(x, 1, 1 << 19, "forfeit", d, 0, 0);
        tells(x, 1, 1 << 18, "forfeit", d, 1, 0);
        tells(x, 1, 2, "forfeit", d, 3, 0);
        tells(x, 1, 1, "forfeit", d, 7, 0);
        tells(x, 1, 2, "forfeit", d, 7, 1);
    }

    private static void value() {
        says("2", "VALUE: the sum of their PRICES.");
        ForfeitBook x = new ForfeitBook();
        for (int t = 0; t < 20; t++) {
            x.thing(STANDING, 0, 10000, t < 10 ? NONE : t - 10);
        }
        x.text(1500, 1, true, 0);
        die(x);
        tells(x, 0, 0, "value", 0, 0);
        for (int t = 0; t < 10; t++) {
            x.act(0, FELL, t, 0, true);
            tells(x, 20000 * (t + 1), (2 << t) - 1, "value", 0, 0);
        }
    }

    private static void sureAndMaybe() {
        says("2", "By all READINGS of a DEATH: SURE: forfeit in each; MAYBE: in some.");
        ForfeitBook x = things(STANDING, 6);
        x.text(1500, 1, true, 0);
        die(x);
        tells(x, 0, 0, "sure", 0, 0);
        tells(x, 0, 0, "sure", 0, 1);
        x.act(0, FELL, 5, 0, true);
        tells(x, 1, 1 << 5, "sure", 0, 0);
        tells(x, 1, 1 << 5, "sure", 0, 1);
        for (int t = 0; t < 5; t++) {
            x.act(0, FELL, t, 0, false);
            tells(x, 1, 1 << 5, "sure", 0, 0);
            tells(x, t + 2, 1 << 5 | (2 << t) - 1, "sure", 0, 1);
        }
        onlyInTheLastReading();
        wholeInsteadOfPart();
    }

    private static void wholeInsteadOfPart() {
        ForfeitBook x = things(STANDING, 1);
        x.thing(STANDING, 0, 1, 0);
        x.text(1500, 1, true, 0);
        die(x, FELL, 1, 0, SURE, FELL, 0, 0, DOUBTFUL);
        tells(x, 0, 0, "sure", 0, 0);
        tells(x, 2, 3, "sure", 0, 1);
    }

    private static void onlyInTheLastReading() {
        ForfeitBook x = things(THING, 4);
        addThings(x, BEAST, 1);
        x.text(1500, 1, false, 0);
        die(x, GOES, 4, 0, DOUBTFUL, MOVES, 4, 3, DOUBTFUL, MOVES, 3, 2, DOUBTFUL, MOVES, 2, 1, DOUBTFUL,
            STRIKES, 1, 0, DOUBTFUL);
        tells(x, 0, 0, "sure", 0, 0);
        tells(x, 1, 2, "sure", 0, 1);
        tells(x, 0, 0, "value", 0, 30);
        tells(x, 1, 2, "value", 0, 31);
    }

    /** More ACTS never make a VALUE less, so the first READING with the least one is 0, among however many. */
    private static void due() {
        says("2", "DUE: the least VALUE; the DUE READING: the first with that.");
        ForfeitBook x = things(STANDING, 6);
        x.text(1500, 1, true, 0);
        x.worth(0, 0);
        x.worth(5, 10000);
        die(x);
        tells(x, 0, 0, "due", 0);
        x.act(0, FELL, 5, 0, true);
        tells(x, 10000, 0, "due", 0);
        for (int t = 0; t < 5; t++) {
            x.act(0, FELL, t, 0, false);
            tells(x, 10000, 0, "due", 0);
        }
        tells(x, 10000, 1 << 5 | 1, "value", 0, 1);
        tells(x, 10004, 63, "value", 0, 31);
    }
}
