/**
 * An object with a bit of everything: a SHEET of each FORM, an empty and a full one, LOST ones that
 * once had items, a SERIES for each part, LADDERS at both ends and places without one.
 */
final class Room {
    static final int G = 0, BYTES = 1, SHORTS = 2, EMPTY = 3, FLAT = 4, LOST = 5, GONE = 6, F = 7;
    static final int MIXED = 0, NO_LADDER = 1, NEITHER = 2, FALLING = 3;
    static final int[] G_ITEMS = {4, 1, 7, 0, 2, 9, 10006, 3, 8, 5};
    static final int[] F_ITEMS = {0, 3, 5, 10000, 2, 8, 1, 0, 77, 1234};
    /** c 0 and c 1 are 0 as NUMBERS, not as ints. */
    private static final int[] FLAT_ITEMS = {
        10007, -20014, Integer.MIN_VALUE, Integer.MAX_VALUE, 5, -6, 7, -8, 9, -10,
        11, -12, 13, -14, 15, -16, 17, -18, 19, -20};

    private Room() {
    }

    static DeltaLadders make() {
        DeltaLadders x = new DeltaLadders();
        x.kind(LOST, 7, 1);
        x.kind(GONE, 2, 1);
        x.ladder(FALLING, LOST, GONE);
        x.lose(LOST);
        x.lose(GONE);
        Make.ints(x, G, G_ITEMS);
        Make.ints(x, F, F_ITEMS);
        x.ladder(MIXED, G, F);
        x.sheet(BYTES, 0, 3);
        x.put(BYTES, 0, 0, -1);
        x.put(BYTES, 0, 1, 5);
        x.put(BYTES, 0, 2, -128);
        x.sheet(SHORTS, 1, 20);
        for (int i = 0; i < 20; i++) {
            x.put(SHORTS, 1, i, 1700 * i - 16000);
        }
        x.sheet(EMPTY, 2, 0);
        Make.ints(x, FLAT, FLAT_ITEMS);
        return x;
    }
}
