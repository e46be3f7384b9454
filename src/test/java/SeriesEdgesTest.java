/** Promises 7 to 15: each sentence that names a boundary, just inside it and just outside it. */
public final class SeriesEdgesTest {
    private static final int LEAST = Edges.LEAST, GREATEST = Edges.GREATEST;
    private static final int G = Room.G, BYTES = Room.BYTES, SHORTS = Room.SHORTS, EMPTY = Room.EMPTY,
        FLAT = Room.FLAT, LOST = Room.LOST, GONE = Room.GONE, F = Room.F;
    private static final int[] ZEROS = Edges.ZEROS, NOT_ZEROS = Edges.NOT_ZEROS;
    private static final Check check = new Check();
    private static final Edges edges = new Edges(check, Room::make);

    public static void main(String[] args) {
        termZeroToNine();
        termOutside();
        kindsAtBothEndsOfA();
        kindOutside();
        joinEachWhat();
        joinOutside();
        overAtTheEnds();
        overByWhatIsZero();
        overOutside();
        intoAtTheEnds();
        intoWhatIsNotZero();
        intoOutside();
        turnAtTheEnds();
        turnWhatCannotBe();
        turnOutside();
        powerZeroToThousand();
        powerOutside();
        valueAnywhere();
        valueOutside();
        applyUpToTheNinthChange();
        applyOutside();
        check.end("SeriesEdgesTest");
    }

    private static Edges with(int s, int... items) {
        return Edges.ofRoomWith(check, s, items);
    }

    private static int[] tToThe(int n) {
        int[] items = new int[n + 1];
        items[n] = 1;
        return items;
    }

    /** Promise 7: "c i of the SERIES (0 to 9)" */
    private static void termZeroToNine() {
        edges.inside("c 0 of the first sheet", 4, x -> x.term(0, 0));
        edges.inside("c 9 of the first sheet", 5, x -> x.term(0, 9));
        edges.inside("c 0 of the last sheet", 0, x -> x.term(7, 0));
        edges.inside("c 9 of the last sheet", 1234, x -> x.term(7, 9));
        edges.inside("c 9 of a full row", 9997, x -> x.term(FLAT, 9));
        edges.inside("c 2, the last item of a short row", 9879, x -> x.term(BYTES, 2));
        edges.inside("c 3, behind the last item", 0, x -> x.term(BYTES, 3));
        edges.inside("c 0 of an empty row", 0, x -> x.term(EMPTY, 0));
        edges.inside("c 9 of an empty row", 0, x -> x.term(EMPTY, 9));
    }

    /** Promise 7: "BAD; NULL.": item 10 of a full row is no term. */
    private static void termOutside() {
        edges.badBeside("term i", 0, 9, (x, v) -> x.term(G, v));
        edges.badBeside("term i of a full row", 0, 9, (x, v) -> x.term(SHORTS, v));
        edges.badBeside("term i of a LOST one", 0, 9, (x, v) -> x.term(LOST, v));
        edges.badBeside("term s", 0, 7, (x, v) -> x.term(v, 0));
        edges.found("term LOST", 1, x -> x.term(LOST, 0));
        edges.found("term LOST, c 9", 1, x -> x.term(GONE, 9));
    }

    /** Promise 8: "the SERIES of a KIND with a (0 to 10006): its c 9" */
    private static void kindsAtBothEndsOfA() {
        long nine = Make.by(1, 362880);
        long eight = Make.by(1, 40320);
        long[] withZero = {0, 0, 0, 0, 0, 0, 0, 0};
        long[] withOne = {0, nine, nine, 1, eight, Make.by(1, 9), 1, 0};
        long[] withLeastOne = {0, 10007 - nine, 10007 - nine, 10006, eight, 10007 - Make.by(1, 9), 1, 0};
        for (int kind = 0; kind < 8; kind++) {
            for (int s : new int[] {0, 7, LOST, BYTES}) {
                int which = kind;
                edges.inside("kind " + kind + " of 0", withZero[kind], x -> x.kind(s, which, 0), s);
                edges.inside("kind " + kind + " of 1", withOne[kind], x -> x.kind(s, which, 1), s);
                edges.inside("kind " + kind + " of 10006", withLeastOne[kind], x -> x.kind(s, which, 10006), s);
            }
        }
        long[][] zero = {{0, 1}, {1}, {0}, {1}, {0, 1}, {0}, {0, 1}, {0}};
        for (int kind = 0; kind < 8; kind++) {
            DeltaLadders x = new DeltaLadders();
            x.kind(3, kind, 0);
            check.series("kind " + kind + " of 0", x, 3, zero[kind]);
        }
        DeltaLadders x = new DeltaLadders();
        x.kind(3, 0, 10006);
        check.series("t, whatever a is", x, 3, 0, 1);
        x.kind(3, 3, 10006);
        check.series("1 by (1 and t)", x, 3, 1, -1, 1, -1, 1, -1, 1, -1, 1, -1);
        x.kind(3, 6, 10006);
        check.series("t by (1 less t)", x, 3, 0, 1, 1, 1, 1, 1, 1, 1, 1, 1);
        x.kind(3, 7, 10006);
        check.series("10006", x, 3, 10006);
        x.kind(3, 5, 1);
        check.series("LOG, the first as it is", x, 3, 0, 1, -Make.by(1, 2), Make.by(1, 3), -Make.by(1, 4),
            Make.by(1, 5), -Make.by(1, 6), Make.by(1, 7), -Make.by(1, 8), Make.by(1, 9));
    }

    /** Promise 8: "BAD." and no NULL. */
    private static void kindOutside() {
        edges.badBeside("kind s", 0, 7, (x, v) -> x.kind(v, 1, 1));
        edges.badBeside("kind", 0, 7, (x, v) -> x.kind(G, v, 1));
        edges.badBeside("kind for a LOST one", 0, 7, (x, v) -> x.kind(LOST, v, 1));
        for (int kind = 0; kind < 8; kind++) {
            int which = kind;
            edges.badBeside("a of kind " + kind, 0, 10006, (x, v) -> x.kind(G, which, v));
        }
    }

    /** Promise 9: "SHEET u becomes (what = 0) s and t together, (1) s less t, (2) s times t: its c 9." */
    private static void joinEachWhat() {
        int[][] given = {{10006, 0, 3, 0, 0, 0, 0, 0, 0, 4}, {1, 10006, 0, 0, 0, 0, 0, 0, 0, 10006}};
        Ends.ask(check, "together ", given, 3, (x, asked, to) -> x.join(asked[0], asked[1], to[0], 0),
            new long[] {0, -1, 3, 0, 0, 0, 0, 0, 0, 3});
        Ends.ask(check, "less ", given, 5, (x, asked, to) -> x.join(asked[0], asked[1], to[0], 1),
            new long[] {-2, 1, 3, 0, 0, 0, 0, 0, 0, 5});
        Ends.ask(check, "times ", given, 5, (x, asked, to) -> x.join(asked[0], asked[1], to[0], 2),
            new long[] {-1, 1, 3, -3, 0, 0, 0, 0, 0, 5});
        for (int what = 0; what < 3; what++) {
            int which = what;
            edges.inside("join " + what + " of empty rows", 0, x -> x.join(EMPTY, EMPTY, LOST, which), LOST);
            edges.inside("join of a LOST u", 0, x -> x.join(BYTES, EMPTY, GONE, which), GONE);
        }
        edges.inside("s less s", 0, x -> x.join(SHORTS, SHORTS, SHORTS, 1), SHORTS);
    }

    /** Promise 9: "BAD; NULL." */
    private static void joinOutside() {
        edges.badBeside("join what", 0, 2, (x, v) -> x.join(G, F, BYTES, v));
        edges.badBeside("join what of LOST ones", 0, 2, (x, v) -> x.join(LOST, GONE, BYTES, v));
        for (int what = 0; what < 3; what++) {
            int which = what;
            edges.badBeside("join s", 0, 7, (x, v) -> x.join(v, F, BYTES, which));
            edges.badBeside("join t", 0, 7, (x, v) -> x.join(G, v, BYTES, which));
            edges.badBeside("join u", 0, 7, (x, v) -> x.join(LOST, F, v, which));
            edges.found("join s LOST", 1, x -> x.join(LOST, F, BYTES, which));
            edges.found("join t LOST", 1, x -> x.join(G, LOST, BYTES, which));
            edges.found("join both LOST", 1, x -> x.join(LOST, GONE, LOST, which));
        }
    }

    /** Promise 10: "SHEET u becomes s by t: its c 9." */
    private static void overAtTheEnds() {
        Ends.ask(check, "over ", new int[][] {{10006}, {10006, 1}}, 1,
            (x, asked, to) -> x.over(asked[0], asked[1], to[0]), new long[] {1, 1, 1, 1, 1, 1, 1, 1, 1, 1});
        edges.inside("an empty one by a series", 0, x -> x.over(EMPTY, G, EMPTY), EMPTY);
        edges.inside("by itself", 0, x -> x.over(SHORTS, SHORTS, SHORTS), SHORTS);
    }

    /** Promise 10: "NOT: t's c 0 is 0." */
    private static void overByWhatIsZero() {
        for (int zero : ZEROS) {
            with(GONE, zero, 1).not("by " + zero + " and t", x -> x.over(G, GONE, G));
            with(GONE, zero).not("0 by " + zero, x -> x.over(EMPTY, GONE, G));
        }
        edges.not("by an empty row", x -> x.over(G, EMPTY, G));
        edges.not("by a row whose c 0 is no 0 as an int", x -> x.over(G, FLAT, G));
        edges.not("t by t", x -> x.over(F, F, F));
        for (int c : NOT_ZEROS) {
            with(GONE, c, 1).inside("1 by (" + c + " and t)", Make.by(-1, power(c, 10)), x -> {
                x.kind(BYTES, 7, 1);
                return x.over(BYTES, GONE, LOST);
            }, BYTES, LOST);
        }
    }

    private static long power(int c, int n) {
        long raised = 1;
        for (int i = 0; i < n; i++) {
            raised = Math.floorMod(raised * Math.floorMod(c, 10007), 10007L);
        }
        return raised;
    }

    /** Promise 10: "BAD; NULL" */
    private static void overOutside() {
        edges.badBeside("over s", 0, 7, (x, v) -> x.over(v, G, BYTES));
        edges.badBeside("over t", 0, 7, (x, v) -> x.over(G, v, BYTES));
        edges.badBeside("over u", 0, 7, (x, v) -> x.over(LOST, EMPTY, v));
        edges.found("over s LOST", 1, x -> x.over(LOST, G, BYTES));
        edges.found("over t LOST", 1, x -> x.over(G, LOST, BYTES));
        edges.found("over s LOST, by 0", 1, x -> x.over(LOST, EMPTY, BYTES));
    }

    /** Promise 11: "SHEET u becomes s INTO t: its c 9." */
    private static void intoAtTheEnds() {
        Ends.ask(check, "into ", new int[][] {{5, 0, 0, 1}, {0, 1, 0, 10006}}, 10006,
            (x, asked, to) -> x.into(asked[0], asked[1], to[0]), new long[] {5, 0, 0, 1, 0, -3, 0, 3, 0, -1});
        Ends.ask(check, "the ninth into t ", new int[][] {tToThe(9), tToThe(1)}, 1,
            (x, asked, to) -> x.into(asked[0], asked[1], to[0]), new long[] {0, 0, 0, 0, 0, 0, 0, 0, 0, 1});
        Ends.ask(check, "the ninth into t t ", new int[][] {tToThe(9), tToThe(2)}, 0,
            (x, asked, to) -> x.into(asked[0], asked[1], to[0]), new long[] {0});
        edges.inside("an empty one into an empty one", 0, x -> x.into(EMPTY, EMPTY, LOST), LOST);
    }

    /** Promise 11: "NOT": t's c 0 is to be 0. */
    private static void intoWhatIsNotZero() {
        for (int c : NOT_ZEROS) {
            with(GONE, c, 1).not("into " + c + " and t", x -> x.into(G, GONE, G));
            with(GONE, c).not("nothing into " + c, x -> x.into(EMPTY, GONE, G));
        }
        edges.not("into a row of bytes", x -> x.into(G, BYTES, G));
        for (int zero : ZEROS) {
            with(GONE, zero, 1).inside("into " + zero + " and t", 5, x -> x.into(G, GONE, LOST), LOST);
        }
        edges.inside("into an empty one", 0, x -> x.into(G, EMPTY, LOST), LOST);
    }

    /** Promise 11: "BAD; NULL" */
    private static void intoOutside() {
        edges.badBeside("into s", 0, 7, (x, v) -> x.into(v, F, BYTES));
        edges.badBeside("into t", 0, 7, (x, v) -> x.into(G, v, BYTES));
        edges.badBeside("into u", 0, 7, (x, v) -> x.into(LOST, G, v));
        edges.found("into s LOST", 1, x -> x.into(LOST, F, BYTES));
        edges.found("into t LOST", 1, x -> x.into(G, LOST, BYTES));
        edges.found("into s LOST, t's c 0 not 0", 1, x -> x.into(LOST, G, BYTES));
    }

    /** Promise 12: "SHEET u becomes s TURNED: its c 9." */
    private static void turnAtTheEnds() {
        Ends.ask(check, "turn ", new int[][] {{0, 1, 10006}}, 1430, (x, asked, to) -> x.turn(asked[0], to[0]),
            new long[] {0, 1, 1, 2, 5, 14, 42, 132, 429, 1430});
        Ends.ask(check, "turn less t ", new int[][] {{0, 10006}}, 0, (x, asked, to) -> x.turn(asked[0], to[0]),
            new long[] {0, -1});
        Ends.ask(check, "turn t and its ninth ", new int[][] {{0, 1, 0, 0, 0, 0, 0, 0, 0, 1, 5, 6}}, 10006,
            (x, asked, to) -> x.turn(asked[0], to[0]), new long[] {0, 1, 0, 0, 0, 0, 0, 0, 0, -1});
    }

    /** Promise 12: "NOT": c 0 is to be 0, c 1 not. */
    private static void turnWhatCannotBe() {
        for (int c : NOT_ZEROS) {
            with(GONE, c, 1).not("c 0 is " + c, x -> x.turn(GONE, GONE));
            with(GONE, 0, c).inside("c 1 is " + c, 0, x -> x.turn(GONE, LOST), LOST);
        }
        for (int zero : ZEROS) {
            with(GONE, 0, zero, 1).not("c 1 is " + zero, x -> x.turn(GONE, GONE));
            with(GONE, zero, 1).inside("c 0 is " + zero, 0, x -> x.turn(GONE, LOST), LOST);
        }
        with(GONE, 1, 0, 1).not("neither as it is to be", x -> x.turn(GONE, GONE));
        with(GONE, 0).not("no item 1", x -> x.turn(GONE, GONE));
        edges.not("an empty row", x -> x.turn(EMPTY, F));
        edges.not("a flat one", x -> x.turn(FLAT, F));
    }

    /** Promise 12: "BAD; NULL" */
    private static void turnOutside() {
        edges.badBeside("turn s", 0, 7, (x, v) -> x.turn(v, F));
        edges.badBeside("turn u", 0, 7, (x, v) -> x.turn(F, v));
        edges.badBeside("turn u of a LOST one", 0, 7, (x, v) -> x.turn(LOST, v));
        edges.badBeside("turn u of what cannot be", 0, 7, (x, v) -> x.turn(G, v));
        edges.found("turn LOST", 1, x -> x.turn(LOST, F));
        edges.found("turn LOST onto itself", 1, x -> x.turn(LOST, LOST));
    }

    /** Promise 13: "SHEET u becomes s to the n (0 to 1000): its c 9." */
    private static void powerZeroToThousand() {
        int[][] given = {{1, 1}};
        Ends.ask(check, "to the 0 ", given, 0, (x, asked, to) -> x.power(asked[0], 0, to[0]), new long[] {1});
        Ends.ask(check, "to the 1 ", given, 0, (x, asked, to) -> x.power(asked[0], 1, to[0]), new long[] {1, 1});
        for (int n : new int[] {2, 511, 512, 999, 1000}) {
            long[] want = choices(n);
            Ends.ask(check, "to the " + n + " ", given, want[9], (x, asked, to) -> x.power(asked[0], n, to[0]), want);
        }
        edges.inside("0 to the 0", 0, x -> x.power(EMPTY, 0, LOST), LOST);
        DeltaLadders x = Room.make();
        x.power(EMPTY, 0, LOST);
        check.series("0 to the 0", x, LOST, 1);
        x.power(EMPTY, 1, LOST);
        check.series("0 to the 1", x, LOST);
        Make.ints(x, LOST, 0, 1);
        check.due("t to the 9", x.power(LOST, 9, GONE), 1);
        check.due("t to the 10", x.power(LOST, 10, GONE), 0);
        check.series("t to the 10", x, GONE);
        check.due("t to the 1000", x.power(LOST, 1000, GONE), 0);
    }

    /** (n over k) for k to 9, as NUMBERS: all factors below are less than 10007. */
    private static long[] choices(int n) {
        long[] choices = new long[10];
        choices[0] = 1;
        for (int k = 1; k < 10; k++) {
            choices[k] = Make.by(choices[k - 1] * Math.max(0, n - k + 1), k);
        }
        return choices;
    }

    /** Promise 13: "BAD; NULL." */
    private static void powerOutside() {
        edges.badBeside("power n", 0, 1000, (x, v) -> x.power(G, v, BYTES));
        edges.badBeside("power n of a LOST one", 0, 1000, (x, v) -> x.power(LOST, v, BYTES));
        edges.badBeside("power s", 0, 7, (x, v) -> x.power(v, 0, BYTES));
        edges.badBeside("power u", 0, 7, (x, v) -> x.power(LOST, 1000, v));
        edges.found("power LOST", 1, x -> x.power(LOST, 1000, BYTES));
        edges.found("power LOST, to the 0", 1, x -> x.power(LOST, 0, LOST));
    }

    /** Promise 14: "at x (any, modulo 10007)" */
    private static void valueAnywhere() {
        int[][] asked = {
            {0, 0}, {1, 1}, {10006, 10006}, {10007, 0}, {10008, 1}, {-1, 10006}, {-10006, 1}, {-10007, 0}, {-10008, 10006},
            {GREATEST, 1461}, {LEAST, 8545}};
        for (int[] a : asked) {
            Ends.ask(check, "x at " + a[0], new int[][] {tToThe(1)}, a[1], (x, s, to) -> x.value(s[0], a[0]));
            long ninth = power(a[0], 9);
            Ends.ask(check, "x to the 9 at " + a[0], new int[][] {tToThe(9)}, ninth, (x, s, to) -> x.value(s[0], a[0]));
            Ends.ask(check, "x to the 10 is not told", new int[][] {tToThe(10)}, 0, (x, s, to) -> x.value(s[0], a[0]));
            edges.inside("an empty one at " + a[0], 0, x -> x.value(EMPTY, a[0]));
        }
        edges.inside("at 0 it is c 0", 4, x -> x.value(G, 0));
    }

    /** Promise 14: "BAD; NULL." */
    private static void valueOutside() {
        edges.badBeside("value s", 0, 7, (x, v) -> x.value(v, 0));
        edges.found("value LOST", 1, x -> x.value(LOST, 0));
        edges.found("value LOST at the least int", 1, x -> x.value(GONE, LEAST));
    }

    /** Promise 15: "what the OPERATOR s makes of the polynomial t": the last change that leaves something. */
    private static void applyUpToTheNinthChange() {
        for (int j = 0; j < 10; j++) {
            for (int n = 0; n < 10; n++) {
                long[] want = new long[10];
                if (j <= n) {
                    want[n - j] = 1;
                    for (int i = 0; i < j; i++) {
                        want[n - j] = want[n - j] * (n - i) % 10007;
                    }
                }
                Ends.ask(check, "change " + j + " of x to the " + n, new int[][] {tToThe(j), tToThe(n)}, want[9],
                    (x, asked, to) -> x.apply(asked[0], asked[1], to[0]), want);
            }
        }
        Ends.ask(check, "what is behind the ninth ", new int[][] {tToThe(10), tToThe(10)}, 0,
            (x, asked, to) -> x.apply(asked[0], asked[1], to[0]), new long[] {0});
        edges.inside("an empty operator", 0, x -> x.apply(EMPTY, G, LOST), LOST);
        edges.inside("on an empty one", 0, x -> x.apply(G, EMPTY, LOST), LOST);
    }

    /** Promise 15: "BAD; NULL." */
    private static void applyOutside() {
        edges.badBeside("apply s", 0, 7, (x, v) -> x.apply(v, G, BYTES));
        edges.badBeside("apply t", 0, 7, (x, v) -> x.apply(G, v, BYTES));
        edges.badBeside("apply u", 0, 7, (x, v) -> x.apply(LOST, GONE, v));
        edges.found("apply s LOST", 1, x -> x.apply(LOST, G, BYTES));
        edges.found("apply t LOST", 1, x -> x.apply(G, LOST, BYTES));
        edges.found("apply both LOST", 1, x -> x.apply(LOST, GONE, LOST));
    }
}
