/** Promises 1 to 6: each sentence that names a boundary, just inside it and just outside it. */
public final class SheetsEdgesTest {
    private static final int LEAST = Edges.LEAST, GREATEST = Edges.GREATEST;
    private static final int G = Room.G, BYTES = Room.BYTES, SHORTS = Room.SHORTS, EMPTY = Room.EMPTY,
        FLAT = Room.FLAT, LOST = Room.LOST, GONE = Room.GONE, F = Room.F;
    private static final Check check = new Check();
    private static final Edges edges = new Edges(check, Room::make);

    public static void main(String[] args) {
        allAreLostAtFirst();
        noLaddersAtFirst();
        objectsShareNothing();
        sheetOfZeroToTwenty();
        sheetAboveTwentyIsBad();
        sheetBelowZeroIsSize();
        sheetAndFormOutside();
        aNewRowIsZero();
        loseTellsHowMany();
        loseOutside();
        putKeepsTheLowestBits();
        putAtTheEnds();
        putOutside();
        getAtTheEnds();
        getOutside();
        getOfTheLeastIntIsNoFinding();
        copyOfEveryStretch();
        copyInItself();
        copyOutside();
        copyOfUnlikeForms();
        copyOfVeryMany();
        check.end("SheetsEdgesTest");
    }

    /** Promise 1: "All SHEETS are LOST" */
    private static void allAreLostAtFirst() {
        Edges fresh = new Edges(check, DeltaLadders::new);
        for (int s = 0; s < 8; s++) {
            int lost = s;
            fresh.found("lose " + s, 1, x -> x.lose(lost));
            for (int form = 0; form < 3; form++) {
                int as = form;
                fresh.least("get " + s, 1, x -> x.get(lost, as, 0));
            }
        }
        check.due("none that is not LOST", new DeltaLadders().count(0), 0);
        check.due("no finding", new DeltaLadders().count(2), 0);
        check.due("digest", new DeltaLadders().digest(), 16337);
    }

    /** Promise 1: "no LADDERS" */
    private static void noLaddersAtFirst() {
        Edges fresh = new Edges(check, DeltaLadders::new);
        for (int k = 0; k < 4; k++) {
            int none = k;
            fresh.not("step " + k, x -> x.step(none, 0, 0));
            fresh.not("binomial " + k, x -> x.binomial(none));
        }
        check.due("no ladders", new DeltaLadders().count(1), 0);
    }

    /** Promise 1: a new object is new, whatever was done to others. */
    private static void objectsShareNothing() {
        DeltaLadders used = Room.make();
        DeltaLadders x = new DeltaLadders();
        DeltaLadders y = new DeltaLadders();
        used.lose(LOST);
        check.due("sheets of a new one", x.count(0), 0);
        check.due("ladders of a new one", x.count(1), 0);
        check.due("finding of a new one", x.count(2), 0);
        Make.ints(x, 0, 1, 2, 3);
        Make.ints(y, 0, 4, 5, 6);
        x.power(0, 2, 1);
        y.power(0, 2, 1);
        check.series("x", x, 1, 1, 4, 10, 12, 9);
        check.series("y", y, 1, 16, 40, 73, 60, 36);
    }

    /** Promise 2: "A SHEET is a new row of a FORM with n items: n." for 0 to 20, at all SHEETS. */
    private static void sheetOfZeroToTwenty() {
        for (int s = 0; s < 8; s++) {
            for (int form = 0; form < 3; form++) {
                for (int n = 0; n <= 20; n++) {
                    DeltaLadders x = new DeltaLadders();
                    check.due("sheet of " + n, x.sheet(s, form, n), n);
                    for (int i = 0; i < n; i++) {
                        check.due("item " + i, x.get(s, form, i), 0);
                    }
                    check.due("no finding yet", x.count(2), 0);
                    check.due("no item " + n, x.get(s, form, n), LEAST);
                    check.due("INDEX", x.count(2), 2);
                }
            }
        }
        edges.inside("0 items", 0, x -> x.sheet(G, 0, 0), G);
        edges.inside("20 items", 20, x -> x.sheet(F, 2, 20), F);
        edges.inside("of a LOST one", 20, x -> x.sheet(LOST, 1, 20), LOST);
    }

    /** Promise 2: "BAD: .. above 20" */
    private static void sheetAboveTwentyIsBad() {
        for (int form = 0; form < 3; form++) {
            int as = form;
            edges.bad("21 items", x -> x.sheet(G, as, 21));
            edges.bad("21 items for a LOST one", x -> x.sheet(LOST, as, 21));
            edges.bad("the most that an int tells", x -> x.sheet(G, as, GREATEST));
        }
    }

    /** Promise 2: "SIZE", 5: below 0. */
    private static void sheetBelowZeroIsSize() {
        for (int form = 0; form < 3; form++) {
            int as = form;
            edges.found("-1 items", 5, x -> x.sheet(G, as, -1));
            edges.found("-1 items for a LOST one", 5, x -> x.sheet(LOST, as, -1));
            edges.found("the least size", 5, x -> x.sheet(F, as, LEAST));
        }
        DeltaLadders x = Room.make();
        x.lose(LOST);
        check.due("after NULL", x.sheet(G, 2, -1), -15);
        check.due("SIZE is the latest", x.count(2), 5);
    }

    /** Promise 2: "BAD: SHEET, FORM", ahead of SIZE. */
    private static void sheetAndFormOutside() {
        for (int n : new int[] {0, 20, -1}) {
            edges.badBeside("sheet with " + n, 0, 7, (x, v) -> x.sheet(v, 2, n));
            edges.badBeside("form with " + n, 0, 2, (x, v) -> x.sheet(G, v, n));
        }
    }

    /** Terms: "(0 at first)": also where the SHEET was a fuller row before, or LOST with items. */
    private static void aNewRowIsZero() {
        for (int form = 0; form < 3; form++) {
            DeltaLadders x = Room.make();
            for (int s : new int[] {SHORTS, FLAT, GONE}) {
                x.sheet(s, form, 20);
                for (int i = 0; i < 20; i++) {
                    check.due("item " + i + " of " + s, x.get(s, form, i), 0);
                }
            }
        }
    }

    /** Promise 3: "It is LOST: how many items it had." */
    private static void loseTellsHowMany() {
        for (int n = 0; n <= 20; n++) {
            DeltaLadders x = new DeltaLadders();
            x.sheet(n % 8, n % 3, n);
            check.due("lose " + n, x.lose(n % 8), n);
            check.due("no finding", x.count(2), 0);
            check.due("again", x.lose(n % 8), -11);
        }
        edges.inside("an empty one", 0, x -> x.lose(EMPTY), EMPTY);
        edges.inside("a full one", 20, x -> x.lose(SHORTS), SHORTS);
        edges.inside("the first", 10, x -> x.lose(0), 0);
        edges.inside("the last", 10, x -> x.lose(7), 7);
    }

    /** Promise 3: "BAD; NULL." */
    private static void loseOutside() {
        edges.badBeside("lose", 0, 7, DeltaLadders::lose);
        edges.found("LOST", 1, x -> x.lose(LOST));
        edges.found("the other LOST one", 1, x -> x.lose(GONE));
    }

    /** Promise 4: "becomes v (the lowest bits that it has)" */
    private static void putKeepsTheLowestBits() {
        int[][] bytes = {
            {127, 127}, {128, -128}, {-128, -128}, {-129, 127}, {255, -1}, {256, 0}, {-256, 0}, {-257, -1},
            {LEAST, 0}, {GREATEST, -1}};
        int[][] shorts = {
            {32767, 32767}, {32768, -32768}, {-32768, -32768}, {-32769, 32767}, {65535, -1}, {65536, 0}, {-65537, -1},
            {128, 128}, {-129, -129}, {LEAST, 0}, {GREATEST, -1}};
        int[][] ints = {{65536, 65536}, {32768, 32768}, {LEAST, LEAST}, {GREATEST, GREATEST}, {-1, -1}, {10007, 10007}};
        int[][][] all = {bytes, shorts, ints};
        for (int form = 0; form < 3; form++) {
            for (int[] a : all[form]) {
                DeltaLadders x = new DeltaLadders();
                x.sheet(3, form, 1);
                check.due("put " + a[0], x.put(3, form, 0, a[0]), 1);
                check.due("form " + form + " of " + a[0], x.get(3, form, 0), a[1]);
                check.due("no finding", x.count(2), 0);
            }
        }
    }

    /** Promise 4: "Item i" from the first to the last, and no other item with it. */
    private static void putAtTheEnds() {
        for (int form = 0; form < 3; form++) {
            for (int n = 1; n <= 20; n++) {
                for (int i : new int[] {0, n - 1}) {
                    DeltaLadders x = new DeltaLadders();
                    x.sheet(7, form, n);
                    check.due("put " + i + " of " + n, x.put(7, form, i, 9), 1);
                    for (int j = 0; j < n; j++) {
                        check.due("item " + j, x.get(7, form, j), j == i ? 9 : 0);
                    }
                }
            }
        }
        edges.inside("the first item", 1, x -> x.put(0, 2, 0, 5), 0);
        edges.inside("the last item", 1, x -> x.put(7, 2, 9, 5), 7);
        edges.inside("the last of a full row", 1, x -> x.put(SHORTS, 1, 19, 5), SHORTS);
    }

    /** Promise 4: "BAD; NULL; CAST; INDEX." */
    private static void putOutside() {
        edges.badBeside("put sheet", 0, 7, (x, v) -> x.put(v, 2, 0, 1));
        edges.badBeside("put form", 0, 2, (x, v) -> x.put(G, v, 0, 1));
        edges.badBeside("put form of a LOST one", 0, 2, (x, v) -> x.put(LOST, v, 0, 1));
        for (int form = 0; form < 3; form++) {
            int as = form;
            edges.found("put LOST", 1, x -> x.put(LOST, as, 0, 1));
            edges.found("put LOST outside", 1, x -> x.put(LOST, as, 20, 1));
        }
        for (int[] a : new int[][] {{BYTES, 1}, {BYTES, 2}, {SHORTS, 0}, {SHORTS, 2}, {G, 0}, {G, 1}, {EMPTY, 0}}) {
            edges.found("put CAST", 3, x -> x.put(a[0], a[1], 0, 1));
            edges.found("put CAST before INDEX", 3, x -> x.put(a[0], a[1], 20, 1));
        }
        int[][] outside = {
            {BYTES, 0, 3}, {SHORTS, 1, 20}, {EMPTY, 2, 0}, {FLAT, 2, 20}, {G, 2, 10}, {F, 2, 10}};
        for (int[] a : outside) {
            for (int i : new int[] {a[2], a[2] + 1, -1, LEAST, GREATEST}) {
                edges.found("put INDEX " + i, 2, x -> x.put(a[0], a[1], i, 1));
            }
        }
    }

    /** Promise 5: "Item i of it." */
    private static void getAtTheEnds() {
        edges.inside("bytes, first", -1, x -> x.get(BYTES, 0, 0));
        edges.inside("bytes, last", -128, x -> x.get(BYTES, 0, 2));
        edges.inside("shorts, first", -16000, x -> x.get(SHORTS, 1, 0));
        edges.inside("shorts, last of a full row", 16300, x -> x.get(SHORTS, 1, 19));
        edges.inside("ints, first", 10007, x -> x.get(FLAT, 2, 0));
        edges.inside("ints, last of a full row", -20, x -> x.get(FLAT, 2, 19));
        edges.inside("the first sheet", 4, x -> x.get(0, 2, 0));
        edges.inside("the last sheet", 1234, x -> x.get(7, 2, 9));
    }

    /** Promise 5: "BAD: the least int; so are NULL, CAST, INDEX (count() 2 tells)." */
    private static void getOutside() {
        for (int v : new int[] {-1, 8, LEAST, GREATEST}) {
            edges.least("get sheet " + v, 0, x -> x.get(v, 2, 0));
        }
        for (int v : new int[] {-1, 3, LEAST, GREATEST}) {
            edges.least("get form " + v, 0, x -> x.get(G, v, 0));
            edges.least("get form of a LOST one " + v, 0, x -> x.get(LOST, v, 0));
        }
        for (int form = 0; form < 3; form++) {
            int as = form;
            edges.least("get LOST", 1, x -> x.get(GONE, as, 0));
            edges.least("get LOST outside", 1, x -> x.get(GONE, as, -1));
        }
        for (int[] a : new int[][] {{BYTES, 1}, {BYTES, 2}, {SHORTS, 0}, {SHORTS, 2}, {G, 0}, {G, 1}, {EMPTY, 1}}) {
            edges.least("get CAST", 3, x -> x.get(a[0], a[1], 0));
            edges.least("get CAST before INDEX", 3, x -> x.get(a[0], a[1], -1));
        }
        for (int[] a : new int[][] {{BYTES, 0, 3}, {SHORTS, 1, 20}, {EMPTY, 2, 0}, {FLAT, 2, 20}, {G, 2, 10}}) {
            for (int i : new int[] {a[2], a[2] + 1, -1, LEAST, GREATEST}) {
                edges.least("get INDEX " + i, 2, x -> x.get(a[0], a[1], i));
            }
        }
    }

    /** Promise 5: "(count() 2 tells)": an item may be the least int. */
    private static void getOfTheLeastIntIsNoFinding() {
        edges.inside("an item that is the least int", LEAST, x -> x.get(FLAT, 2, 2));
    }

    /** Promise 6: "n items of SHEET s, from i on, come to SHEET t, from j on"; "INDEX: below 0, not so many." */
    private static void copyOfEveryStretch() {
        for (int sizes = 0; sizes < 25; sizes++) {
            int size = sizes / 5;
            int other = sizes % 5;
            for (int i = -1; i <= size + 1; i++) {
                for (int j = -1; j <= other + 1; j++) {
                    for (int n = -1; n <= 6; n++) {
                        copyStretch(size, i, other, j, n);
                    }
                }
            }
        }
    }

    private static void copyStretch(int size, int i, int other, int j, int n) {
        DeltaLadders x = new DeltaLadders();
        int form = (size + other) % 3;
        x.sheet(0, form, size);
        x.sheet(7, form, other);
        int[] from = new int[size];
        int[] to = new int[other];
        for (int k = 0; k < size; k++) {
            from[k] = k - 2;
            x.put(0, form, k, k - 2);
        }
        for (int k = 0; k < other; k++) {
            to[k] = 10 + k;
            x.put(7, form, k, 10 + k);
        }
        boolean fits = i >= 0 && j >= 0 && n >= 0 && i + n <= size && j + n <= other;
        for (int k = 0; fits && k < n; k++) {
            to[j + k] = from[i + k];
        }
        String call = "copy(" + size + ": " + i + ", " + other + ": " + j + ", " + n + ")";
        check.due(call, x.copy(0, i, 7, j, n), fits ? 1 : -12);
        check.due(call + ", finding", x.count(2), fits ? 0 : 2);
        for (int k = 0; k < size; k++) {
            check.due(call + ", item " + k + " of s", x.get(0, form, k), from[k]);
        }
        for (int k = 0; k < other; k++) {
            check.due(call + ", item " + k + " of t", x.get(7, form, k), to[k]);
        }
    }

    /** Promise 6: "(perhaps s, as they were)": all stretches of a full row that lie over one another. */
    private static void copyInItself() {
        for (int i = 0; i <= 20; i++) {
            for (int j = 0; j <= 20; j++) {
                int most = 20 - Math.max(i, j);
                for (int n : new int[] {0, 1, most - 1, most, most + 1}) {
                    if (n >= 0) {
                        copyFull(i, j, n, n <= most);
                    }
                }
            }
        }
    }

    private static void copyFull(int i, int j, int n, boolean fits) {
        DeltaLadders x = Room.make();
        String call = "copy in itself(" + i + ", " + j + ", " + n + ")";
        check.due(call, x.copy(SHORTS, i, SHORTS, j, n), fits ? 1 : -12);
        for (int k = 0; k < 20; k++) {
            int from = fits && k >= j && k < j + n ? k - j + i : k;
            check.due(call + ", item " + k, x.get(SHORTS, 1, k), 1700 * from - 16000);
        }
    }

    /** Promise 6: "BAD: the SHEETS; NULL: s, t", ahead of all else. */
    private static void copyOutside() {
        edges.badBeside("copy s", 0, 7, (x, v) -> x.copy(v, 0, F, 0, 1));
        edges.badBeside("copy t", 0, 7, (x, v) -> x.copy(G, 0, v, 0, 1));
        edges.badBeside("copy t of a LOST s", 0, 7, (x, v) -> x.copy(LOST, -1, v, -1, -1));
        edges.found("copy s LOST", 1, x -> x.copy(LOST, 0, G, 0, 1));
        edges.found("copy t LOST", 1, x -> x.copy(G, 0, LOST, 0, 1));
        edges.found("copy both LOST", 1, x -> x.copy(LOST, 0, GONE, 0, 1));
        edges.found("copy a LOST one to itself", 1, x -> x.copy(LOST, 0, LOST, 0, 0));
        edges.found("copy s LOST, none", 1, x -> x.copy(LOST, 0, G, 0, 0));
        edges.found("copy t LOST, none", 1, x -> x.copy(EMPTY, 0, LOST, 0, 0));
        edges.inside("none of an empty row", 1, x -> x.copy(EMPTY, 0, EMPTY, 0, 0));
        edges.inside("none, behind the last item", 1, x -> x.copy(G, 10, FLAT, 20, 0));
        edges.inside("all that there are", 1, x -> x.copy(G, 0, FLAT, 10, 10), FLAT);
        edges.found("one too many of s", 2, x -> x.copy(G, 0, FLAT, 0, 11));
        edges.found("one too many for t", 2, x -> x.copy(G, 0, FLAT, 11, 10));
    }

    /** Promise 6: "STORE": unlike FORMS, ahead of INDEX and though no item comes. */
    private static void copyOfUnlikeForms() {
        int[] sheets = {BYTES, SHORTS, G};
        for (int one : sheets) {
            for (int other : sheets) {
                if (one != other) {
                    edges.found("STORE", 4, x -> x.copy(one, 0, other, 0, 1));
                    edges.found("STORE, none", 4, x -> x.copy(one, 0, other, 0, 0));
                    edges.found("STORE before INDEX", 4, x -> x.copy(one, 0, other, 0, -1));
                }
            }
        }
    }

    /** Promise 6: "INDEX: .. not so many", where i and n together are beyond an int. */
    private static void copyOfVeryMany() {
        int[][] asked = {
            {1, 0, GREATEST}, {0, 1, GREATEST}, {GREATEST, 0, 1}, {0, GREATEST, 1}, {GREATEST, GREATEST, GREATEST},
            {10, 10, GREATEST - 9}, {LEAST, 0, 1}, {0, LEAST, 1}, {0, 0, LEAST}, {LEAST, LEAST, LEAST}, {1, 1, LEAST},
            {GREATEST, 0, 0}, {0, GREATEST, 0}, {11, 0, 0}, {0, 11, 0}, {-1, 0, 0}, {0, -1, 0}, {0, 0, -1}, {1, 1, -1}};
        for (int[] a : asked) {
            edges.found("copy " + a[0] + ", " + a[1] + ", " + a[2], 2, x -> x.copy(G, a[0], F, a[1], a[2]));
        }
    }
}
