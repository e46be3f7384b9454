/** Short ways to set up objects in tests. */
final class Make {
    private Make() {
    }

    static void ints(DeltaLadders x, int s, int... items) {
        x.sheet(s, 2, items.length);
        for (int i = 0; i < items.length; i++) {
            x.put(s, 2, i, items[i]);
        }
    }

    /** The NUMBER that is a by b. */
    static int by(long a, long b) {
        for (int q = 0; q < 10007; q++) {
            if (Math.floorMod(q * b - a, 10007L) == 0) {
                return q;
            }
        }
        throw new IllegalArgumentException("not by 0");
    }
}
