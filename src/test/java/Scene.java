/** THINGS that several tests of the project put in the way of deaths. */
final class Scene {
    static final int NONE = ForfeitBook.NONE;
    static final int GOES = 0, MOVES = 1, STRIKES = 2, FELL = 3;
    static final int OX = 0, CART = 1, WHEEL = 2, POST = 3, KNOB = 4, SACK = 5, BARREL = 6, JUG = 7, STONE = 8,
        MILL = 9, HOUSE = 10;

    private Scene() {
    }

    /** SORT n for THING n but the last, the HOUSE, which is of the OX's; WORTH 2 to the power of n. */
    static ForfeitBook things() {
        ForfeitBook x = new ForfeitBook();
        x.thing(1, OX, 1, NONE);
        x.thing(0, CART, 2, NONE);
        x.thing(0, WHEEL, 4, CART);
        x.thing(3, POST, 8, CART);
        x.thing(0, KNOB, 16, POST);
        x.thing(0, SACK, 32, NONE);
        x.thing(3, BARREL, 64, NONE);
        x.thing(0, JUG, 128, NONE);
        x.thing(0, STONE, 256, NONE);
        x.thing(2, MILL, 512, NONE);
        x.thing(3, OX, 1024, NONE);
        x.on(SACK, CART);
        x.on(BARREL, CART);
        x.on(JUG, BARREL);
        return x;
    }

    static int set(int... members) {
        int bits = 0;
        for (int n : members) {
            bits |= 1 << n;
        }
        return bits;
    }
}
