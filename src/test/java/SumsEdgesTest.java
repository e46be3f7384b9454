/** Promises 23 to 25: each sentence that names a boundary, just inside it and just outside it. */
public final class SumsEdgesTest {
    private static final int LEAST = Edges.LEAST, GREATEST = Edges.GREATEST;
    private static final int G = Room.G, BYTES = Room.BYTES, SHORTS = Room.SHORTS, EMPTY = Room.EMPTY,
        LOST = Room.LOST, GONE = Room.GONE, F = Room.F;
    private static final int MOST = 2000000000;
    private static final int[] ANYWHERE = {0, 1, 10006, 10007, 10008, -1, -10007, -10008, LEAST, GREATEST};
    private static final Check check = new Check();
    private static final Edges edges = new Edges(check, Room::make);

    public static void main(String[] args) {
        sumOfNoneAndOfOne();
        sumOfTheMost();
        sumOverAWholeTurn();
        sumOfFewerThanDifferences();
        sumFromAnywhere();
        sumOutside();
        throughOneToTen();
        throughAsksTheFirstOnly();
        throughNoSuchItems();
        throughDegree();
        throughOutside();
        differenceZeroToNine();
        differenceFromAnywhere();
        differenceOutside();
        check.end("SumsEdgesTest");
    }

    private static long valueOf(int[] items, long at) {
        long total = 0;
        for (int i = Math.min(items.length, 10) - 1; i >= 0; i--) {
            total = Math.floorMod(total * Math.floorMod(at, 10007L) + items[i], 10007L);
        }
        return total;
    }

    private static long sumOf(int[] items, long from, int many) {
        long total = 0;
        for (int i = 0; i < many; i++) {
            total = (total + valueOf(items, from + i)) % 10007;
        }
        return total;
    }

    /** Terms: "so many (0 to 2000000000)": its least. */
    private static void sumOfNoneAndOfOne() {
        for (int a : ANYWHERE) {
            edges.inside("none from " + a, 0, x -> x.sum(G, a, 0));
            edges.inside("one from " + a, valueOf(Room.G_ITEMS, a), x -> x.sum(G, a, 1));
            edges.inside("one of an empty row", 0, x -> x.sum(EMPTY, a, 1));
        }
        edges.inside("none of an empty row", 0, x -> x.sum(EMPTY, 0, 0));
    }

    /** Terms: "so many (0 to 2000000000)": its most; 10007 values in a row are 0 together. */
    private static void sumOfTheMost() {
        for (int many : new int[] {MOST, MOST - 1}) {
            long want = sumOf(Room.F_ITEMS, 5, many % 10007);
            Ends.ask(check, "sum of " + many, new int[][] {Room.F_ITEMS}, want, (x, s, to) -> x.sum(s[0], 5, many));
            edges.inside("sum of " + many, want, x -> x.sum(F, 5, many));
            edges.inside("of an empty row", 0, x -> x.sum(EMPTY, 5, many));
        }
        Ends.ask(check, "ones", new int[][] {{1}}, MOST % 10007, (x, s, to) -> x.sum(s[0], 0, MOST));
        Ends.ask(check, "0, 1, 2 ..", new int[][] {{0, 1}}, 1000000000L * 1999999999L % 10007,
            (x, s, to) -> x.sum(s[0], 0, MOST));
    }

    /** Terms: "as NUMBERS": so many just below 10007, just that, and just above. */
    private static void sumOverAWholeTurn() {
        for (int a : new int[] {0, 3, 10006, -4}) {
            long last = valueOf(Room.G_ITEMS, a - 1);
            edges.inside("one less than a turn", Math.floorMod(-last, 10007), x -> x.sum(G, a, 10006));
            edges.inside("a turn", 0, x -> x.sum(G, a, 10007));
            edges.inside("one more than a turn", valueOf(Room.G_ITEMS, a), x -> x.sum(G, a, 10008));
            edges.inside("many turns", 0, x -> x.sum(G, a, 10007 * 199860));
        }
    }

    /** Terms: "(so many over k and 1)": 0 where so many are fewer. */
    private static void sumOfFewerThanDifferences() {
        for (int many = 0; many <= 12; many++) {
            int so = many;
            edges.inside("sum of " + many, sumOf(Room.G_ITEMS, 7, many), x -> x.sum(G, 7, so));
            edges.inside("from below 0", sumOf(Room.G_ITEMS, -3, many), x -> x.sum(G, -3, so));
        }
    }

    /** Promise 23: "from a (any, modulo 10007)" */
    private static void sumFromAnywhere() {
        for (int a : ANYWHERE) {
            edges.inside("sum from " + a, sumOf(Room.G_ITEMS, a, 30), x -> x.sum(G, a, 30));
        }
        int[] tenth = {0, 0, 0, 0, 0, 0, 0, 0, 0, 1, 1};
        Ends.ask(check, "x to the 9, and no x to the 10", new int[][] {tenth}, sumOf(tenth, 2, 20),
            (x, s, to) -> x.sum(s[0], 2, 20));
    }

    /** Promise 23: "BAD; NULL." */
    private static void sumOutside() {
        edges.badBeside("sum s", 0, 7, (x, v) -> x.sum(v, 0, 1));
        edges.badBeside("sum many", 0, MOST, (x, v) -> x.sum(G, 0, v));
        edges.badBeside("sum many of a LOST one", 0, MOST, (x, v) -> x.sum(LOST, 0, v));
        edges.found("sum LOST", 1, x -> x.sum(LOST, 0, 1));
        edges.found("sum LOST, none", 1, x -> x.sum(GONE, LEAST, 0));
        edges.found("sum LOST, the most", 1, x -> x.sum(GONE, GREATEST, MOST));
    }

    /** Terms: "THROUGH so many values (1 to 10)" */
    private static void throughOneToTen() {
        int[][] given = {{7, 9, 13, 19, 27, 37, 49, 63, 79, 97}};
        Ends.ask(check, "through 1", given, 0, (x, s, to) -> x.through(s[0], 1, to[0]), new long[] {7});
        Ends.ask(check, "through 2", given, 1, (x, s, to) -> x.through(s[0], 2, to[0]), new long[] {7, 2});
        Ends.ask(check, "through 3", given, 2, (x, s, to) -> x.through(s[0], 3, to[0]), new long[] {7, 1, 1});
        Ends.ask(check, "through 10", given, 2, (x, s, to) -> x.through(s[0], 10, to[0]), new long[] {7, 1, 1});
        int[] ninths = new int[10];
        for (int i = 0; i < 10; i++) {
            ninths[i] = (int) Math.pow(i, 9);
        }
        long[] ninth = {0, 0, 0, 0, 0, 0, 0, 0, 0, 1};
        Ends.ask(check, "through all ten", new int[][] {ninths}, 9, (x, s, to) -> x.through(s[0], 10, to[0]), ninth);
        DeltaLadders x = new DeltaLadders();
        Make.ints(x, 0, ninths);
        check.due("through nine of them", x.through(0, 9, 1), 8);
        check.due("and not the tenth", x.value(1, 9) != x.term(0, 9));
    }

    /** Promise 24: "the first n items of a SHEET" */
    private static void throughAsksTheFirstOnly() {
        for (int n = 1; n <= 10; n++) {
            DeltaLadders x = new DeltaLadders();
            int[] items = new int[20];
            for (int i = 0; i < 20; i++) {
                items[i] = i < n ? 3 * i + 1 : 5000 + i * i * i;
            }
            Make.ints(x, 0, items);
            check.due("through " + n, x.through(0, n, 1), n == 1 ? 0 : 1);
            check.series("through " + n, x, 1, 1, n == 1 ? 0 : 3);
        }
    }

    /** Promise 24: "(as a SERIES tells them)": 0, if there is no such item; modulo 10007. */
    private static void throughNoSuchItems() {
        for (int n = 1; n <= 10; n++) {
            DeltaLadders x = new DeltaLadders();
            Make.ints(x, 0, 0, 10008, -9999);
            int degree = x.through(0, n, 1);
            int[] values = {0, 1, 8, 0, 0, 0, 0, 0, 0, 0};
            for (int i = 0; i < n; i++) {
                check.due("through " + n + " at " + i, x.value(1, i), values[i]);
            }
            check.due("degree of " + n, degree, n == 1 ? 0 : n - 1);
        }
        edges.inside("of an empty row, 1", 0, x -> x.through(EMPTY, 1, LOST), LOST);
        edges.inside("of an empty row, 10", 0, x -> x.through(EMPTY, 10, LOST), LOST);
        edges.inside("of a full row of shorts", 1, x -> x.through(SHORTS, 10, SHORTS), SHORTS);
    }

    /** Promise 24: "its degree (0, if all are 0)" */
    private static void throughDegree() {
        DeltaLadders x = new DeltaLadders();
        Make.ints(x, 0, 0, 0, 0, 7);
        check.due("all three are 0", x.through(0, 3, 1), 0);
        check.series("all three are 0", x, 1);
        check.due("not all four are", x.through(0, 4, 1), 3);
        Make.ints(x, 0, 10007, -10007, 0);
        check.due("all are 0 as NUMBERS", x.through(0, 10, 1), 0);
        check.series("all are 0 as NUMBERS", x, 1);
        Make.ints(x, 0, 5, 5, 5, 5, 5, 5, 5, 5, 5, 5);
        check.due("all are 5", x.through(0, 10, 1), 0);
        check.series("all are 5", x, 1, 5);
        for (int last = 9; last >= 0; last--) {
            x.sheet(0, 2, 10);
            x.put(0, 2, last, 1);
            check.due("only the last is not 0, of " + (last + 1), x.through(0, last + 1, 1), last);
        }
    }

    /** Promise 24: "BAD; NULL." */
    private static void throughOutside() {
        edges.badBeside("through n", 1, 10, (x, v) -> x.through(G, v, BYTES));
        edges.badBeside("through n of a LOST one", 1, 10, (x, v) -> x.through(LOST, v, BYTES));
        edges.badBeside("through s", 0, 7, (x, v) -> x.through(v, 1, BYTES));
        edges.badBeside("through u", 0, 7, (x, v) -> x.through(LOST, 10, v));
        edges.found("through LOST", 1, x -> x.through(LOST, 1, BYTES));
        edges.found("through LOST, onto itself", 1, x -> x.through(GONE, 10, GONE));
    }

    /** Promise 25: "The k-th difference (0 to 9)", "signs changing, the last as it is". */
    private static void differenceZeroToNine() {
        for (int n = 0; n < 10; n++) {
            for (int k = 0; k < 10; k++) {
                int[] items = new int[n + 1];
                items[n] = 1;
                int order = k;
                Ends.ask(check, "difference " + k + " of x to the " + n, new int[][] {items},
                    differenceOf(items, k, 4), (x, s, to) -> x.difference(s[0], order, 4));
            }
        }
        int[] ninth = {0, 0, 0, 0, 0, 0, 0, 0, 0, 1, 1};
        Ends.ask(check, "the ninth", new int[][] {ninth}, 362880 % 10007, (x, s, to) -> x.difference(s[0], 9, 77));
        int[] eighth = {5, 4, 3, 2, 1, 0, 9, 8, 7};
        Ends.ask(check, "above its degree", new int[][] {eighth}, 0, (x, s, to) -> x.difference(s[0], 9, 77));
        edges.inside("of an empty row", 0, x -> x.difference(EMPTY, 0, 5));
        edges.inside("of an empty row, ninth", 0, x -> x.difference(EMPTY, 9, 5));
    }

    private static long differenceOf(int[] items, int k, long a) {
        if (k == 0) {
            return valueOf(items, a);
        }
        return Math.floorMod(differenceOf(items, k - 1, a + 1) - differenceOf(items, k - 1, a), 10007L);
    }

    /** Promise 25: "at a: .. its value at a and i", a taken as a NUMBER before i is added. */
    private static void differenceFromAnywhere() {
        for (int a : ANYWHERE) {
            for (int k : new int[] {0, 1, 2, 8, 9}) {
                edges.inside("difference " + k + " at " + a, differenceOf(Room.G_ITEMS, k, a), x -> x.difference(G, k, a));
            }
        }
    }

    /** Promise 25: "BAD; NULL." */
    private static void differenceOutside() {
        edges.badBeside("difference s", 0, 7, (x, v) -> x.difference(v, 0, 0));
        edges.badBeside("difference k", 0, 9, (x, v) -> x.difference(G, v, 0));
        edges.badBeside("difference k of a LOST one", 0, 9, (x, v) -> x.difference(LOST, v, 0));
        edges.found("difference LOST", 1, x -> x.difference(LOST, 0, 0));
        edges.found("difference LOST, ninth", 1, x -> x.difference(GONE, 9, LEAST));
    }
}
