import java.math.BigInteger;

/** Promises 26 to 31: each sentence that names a boundary, just inside it and just outside it. */
public final class TrianglesEdgesTest {
    private static final int G = Room.G, BYTES = Room.BYTES, SHORTS = Room.SHORTS, EMPTY = Room.EMPTY,
        FLAT = Room.FLAT, LOST = Room.LOST, GONE = Room.GONE, F = Room.F;
    private static final int[] ZEROS = Edges.ZEROS, NOT_ZEROS = Edges.NOT_ZEROS;
    private static final Check check = new Check();
    private static final Edges edges = new Edges(check, Room::make);

    public static void main(String[] args) {
        triangleFirstAndLast();
        triangleOfWhatCannotBe();
        triangleOutside();
        productAtTheEnds();
        productWhereUIsV();
        productOfWhatCannotBe();
        productOutside();
        backAtTheEnds();
        backWhereUIsV();
        backOfWhatCannotBe();
        backOutside();
        aRowEndsWithZero();
        aRowOfWhatCannotBe();
        aRowOutside();
        countOfSheets();
        countOfLadders();
        countOfFindings();
        countOutside();
        digestOfNothing();
        digestOfAll();
        digestOfWhatIsNotLost();
        check.end("TrianglesEdgesTest");
    }

    private static Edges with(int s, int... items) {
        return Edges.ofRoomWith(check, s, items);
    }

    /** Promise 26: "Row n, place k (0 to 9) of the TRIANGLE of g, f." */
    private static void triangleFirstAndLast() {
        long lead = 4;
        for (int n = 0; n < 10; n++) {
            int row = n;
            edges.inside("place " + n + " of row " + n, lead % 10007, x -> x.triangle(G, F, row, row));
            edges.inside("place 0 of row " + n, Room.G_ITEMS[n], x -> x.triangle(G, F, row, 0));
            for (int k = n + 1; k < 10; k++) {
                int place = k;
                edges.inside("behind the end of row " + n, 0, x -> x.triangle(G, F, row, place));
            }
            lead *= 3;
        }
        Ends.ask(check, "row 9, place 4 of Pascal's", new int[][] {ones(0), ones(1)}, 126,
            (x, asked, to) -> x.triangle(asked[0], asked[1], 9, 4));
        edges.inside("g is empty", 0, x -> x.triangle(EMPTY, F, 9, 0));
        edges.inside("f is empty, place 0", 5, x -> x.triangle(G, EMPTY, 9, 0));
        edges.inside("f is empty, place 1", 0, x -> x.triangle(G, EMPTY, 9, 1));
        edges.inside("f is flat, place 1 of row 1", 0, x -> x.triangle(G, FLAT, 1, 1));
        edges.inside("f is flat, place 0 of row 0", 4, x -> x.triangle(G, FLAT, 0, 0));
    }

    private static int[] ones(int from) {
        int[] items = new int[10];
        for (int i = from; i < 10; i++) {
            items[i] = 1;
        }
        return items;
    }

    /** Terms: "TRIANGLES: of SERIES g, f (f's c 0 is 0)"; Promise 26: "NOT." */
    private static void triangleOfWhatCannotBe() {
        for (int c : NOT_ZEROS) {
            with(GONE, c, 1).not("f's c 0 is " + c, x -> x.triangle(G, GONE, 9, 9));
            with(GONE, c, 1).not("f's c 0 is " + c + ", place 0", x -> x.triangle(G, GONE, 0, 0));
        }
        for (int zero : ZEROS) {
            with(GONE, zero, 1).inside("f's c 0 is " + zero, 4, x -> x.triangle(G, GONE, 9, 9));
            with(GONE, zero, 1).inside("g's c 0 is " + zero, 1, x -> x.triangle(GONE, GONE, 9, 8));
        }
        edges.not("f is a row of bytes", x -> x.triangle(G, BYTES, 0, 0));
    }

    /** Promise 26: "BAD; NULL" */
    private static void triangleOutside() {
        edges.badBeside("triangle g", 0, 7, (x, v) -> x.triangle(v, F, 0, 0));
        edges.badBeside("triangle f", 0, 7, (x, v) -> x.triangle(G, v, 0, 0));
        edges.badBeside("triangle n", 0, 9, (x, v) -> x.triangle(G, F, v, 0));
        edges.badBeside("triangle k", 0, 9, (x, v) -> x.triangle(G, F, 0, v));
        edges.badBeside("triangle n of LOST ones", 0, 9, (x, v) -> x.triangle(LOST, G, v, 0));
        edges.badBeside("triangle k of LOST ones", 0, 9, (x, v) -> x.triangle(LOST, G, 0, v));
        edges.found("triangle g LOST", 1, x -> x.triangle(LOST, F, 0, 0));
        edges.found("triangle f LOST", 1, x -> x.triangle(G, LOST, 0, 0));
        edges.found("triangle g LOST, f's c 0 not 0", 1, x -> x.triangle(LOST, G, 0, 0));
    }

    /** Promise 27: "SHEETS u, v become THE PRODUCT of (g, f) and (h, l): 1." */
    private static void productAtTheEnds() {
        Ends.ask(check, "product ", new int[][] {{2}, {0, 1, 1}, {1, 1}, {0, 0, 1}}, 1,
            (x, asked, to) -> x.product(asked[0], asked[1], asked[2], asked[3], to[0], to[1]),
            new long[] {2, 2, 2}, new long[] {0, 0, 1, 2, 1});
        edges.inside("of the same two, onto them", 1, x -> x.product(G, F, G, F, G, F), G, F);
        edges.inside("to LOST ones", 1, x -> x.product(G, F, G, F, LOST, GONE), LOST, GONE);
        edges.inside("of empty ones", 1, x -> x.product(EMPTY, EMPTY, EMPTY, EMPTY, LOST, GONE), LOST, GONE);
        edges.inside("f and l flat", 1, x -> x.product(G, FLAT, G, FLAT, LOST, GONE), LOST, GONE);
    }

    /** Promise 27: "BAD: also u is v" */
    private static void productWhereUIsV() {
        for (int u = 0; u < 8; u++) {
            int both = u;
            edges.bad("u is v, " + u, x -> x.product(G, F, G, F, both, both));
            edges.bad("u is v, g LOST", x -> x.product(LOST, F, G, F, both, both));
            edges.bad("u is v, f's c 0 not 0", x -> x.product(G, G, G, F, both, both));
        }
        edges.inside("u is not v", 1, x -> x.product(G, F, G, F, 0, 1), 0, 1);
        edges.inside("nor the other way", 1, x -> x.product(G, F, G, F, 1, 0), 0, 1);
    }

    /** Promise 27: "NOT: f's or l's c 0 is not 0." */
    private static void productOfWhatCannotBe() {
        for (int c : NOT_ZEROS) {
            with(GONE, c, 1).not("f's c 0 is " + c, x -> x.product(G, GONE, G, F, BYTES, SHORTS));
            with(GONE, c, 1).not("l's c 0 is " + c, x -> x.product(G, F, G, GONE, BYTES, SHORTS));
            with(GONE, c, 1).not("both's c 0 is " + c, x -> x.product(G, GONE, G, GONE, GONE, SHORTS));
        }
        for (int zero : ZEROS) {
            with(GONE, zero, 1).inside("all's c 0 is " + zero, 1,
                x -> x.product(GONE, GONE, GONE, GONE, LOST, BYTES), LOST, BYTES);
        }
        edges.inside("c 0 of g and h is 0", 1, x -> x.product(F, F, F, F, LOST, BYTES), LOST, BYTES);
    }

    /** Promise 27: "BAD; NULL" */
    private static void productOutside() {
        for (int place = 0; place < 6; place++) {
            int which = place;
            edges.badBeside("product, place " + place, 0, 7, (x, v) -> product(x, which, v, G, F, G, F, BYTES, SHORTS));
            edges.badBeside("product of LOST ones, place " + place, 0, 7,
                (x, v) -> product(x, which, v, LOST, LOST, LOST, LOST, BYTES, SHORTS));
        }
        for (int place = 0; place < 4; place++) {
            int which = place;
            edges.found("product LOST, place " + place, 1, x -> product(x, which, LOST, G, F, G, F, BYTES, SHORTS));
            edges.found("product LOST, before NOT", 1, x -> product(x, which, LOST, G, G, G, G, BYTES, SHORTS));
        }
    }

    private static int product(DeltaLadders x, int place, int v, int... a) {
        a[place] = v;
        return x.product(a[0], a[1], a[2], a[3], a[4], a[5]);
    }

    /** Promise 28: "SHEETS u, v become THE TURNED one of (g, f): 1." */
    private static void backAtTheEnds() {
        Ends.ask(check, "back ", new int[][] {{10006, 0, 1}, {0, 10006}}, 1,
            (x, asked, to) -> x.back(asked[0], asked[1], to[0], to[1]),
            new long[] {-1, 0, -1, 0, -1, 0, -1, 0, -1, 0}, new long[] {0, -1});
        edges.inside("onto them", 1, x -> x.back(G, F, G, F), G, F);
        edges.inside("to LOST ones", 1, x -> x.back(G, F, LOST, GONE), LOST, GONE);
    }

    /** Promise 28: "BAD: also u is v" */
    private static void backWhereUIsV() {
        for (int u = 0; u < 8; u++) {
            int both = u;
            edges.bad("u is v, " + u, x -> x.back(G, F, both, both));
            edges.bad("u is v, g LOST", x -> x.back(LOST, F, both, both));
            edges.bad("u is v, it cannot be", x -> x.back(F, G, both, both));
        }
    }

    /** Promise 28: "NOT: it cannot be." */
    private static void backOfWhatCannotBe() {
        for (int zero : ZEROS) {
            with(GONE, zero, 1).not("g's c 0 is " + zero, x -> x.back(GONE, F, BYTES, SHORTS));
            with(GONE, 0, zero, 1).not("f's c 1 is " + zero, x -> x.back(G, GONE, BYTES, SHORTS));
            with(GONE, zero, 1).inside("f's c 0 is " + zero, 1, x -> x.back(G, GONE, BYTES, SHORTS), BYTES, SHORTS);
        }
        for (int c : NOT_ZEROS) {
            with(GONE, c, 1).not("f's c 0 is " + c, x -> x.back(G, GONE, BYTES, SHORTS));
            with(GONE, c).inside("g's c 0 is " + c, 1, x -> x.back(GONE, F, BYTES, SHORTS), BYTES, SHORTS);
            with(GONE, 0, c).inside("f's c 1 is " + c, 1, x -> x.back(G, GONE, BYTES, SHORTS), BYTES, SHORTS);
        }
        edges.not("g is empty", x -> x.back(EMPTY, F, G, F));
        edges.not("f is empty", x -> x.back(G, EMPTY, G, F));
        edges.not("f is flat", x -> x.back(G, FLAT, G, F));
    }

    /** Promise 28: "BAD; NULL" */
    private static void backOutside() {
        edges.badBeside("back g", 0, 7, (x, v) -> x.back(v, F, BYTES, SHORTS));
        edges.badBeside("back f", 0, 7, (x, v) -> x.back(G, v, BYTES, SHORTS));
        edges.badBeside("back u", 0, 7, (x, v) -> x.back(LOST, F, v, SHORTS));
        edges.badBeside("back v", 0, 7, (x, v) -> x.back(G, LOST, BYTES, v));
        edges.found("back g LOST", 1, x -> x.back(LOST, F, BYTES, SHORTS));
        edges.found("back f LOST", 1, x -> x.back(G, LOST, BYTES, SHORTS));
        edges.found("back g LOST, f cannot be", 1, x -> x.back(LOST, G, BYTES, SHORTS));
        edges.found("back f LOST, g cannot be", 1, x -> x.back(F, LOST, BYTES, SHORTS));
    }

    /** Terms: "THE A ROW of f: t by F, as a SERIES (c 9 being 0)", though the row has more to tell. */
    private static void aRowEndsWithZero() {
        int[] powers = new int[10];
        for (int n = 1; n < 10; n++) {
            powers[n] = Make.by(1, factorial(n));
        }
        long[] gregory = {1, Make.by(1, 2), -Make.by(1, 12), Make.by(1, 24), -Make.by(19, 720), Make.by(3, 160),
            -Make.by(863, 60480), Make.by(275, 24192), -Make.by(33953, 3628800), 0};
        Ends.ask(check, "the row of E to the t less 1 ", new int[][] {powers}, 1,
            (x, asked, to) -> x.aRow(asked[0], to[0]), gregory);
        Ends.ask(check, "the row of t by (1 less t) ", new int[][] {ones(1)}, 1,
            (x, asked, to) -> x.aRow(asked[0], to[0]), new long[] {1, 1});
        Ends.ask(check, "the row of less t ", new int[][] {{0, 10006}}, 10006,
            (x, asked, to) -> x.aRow(asked[0], to[0]), new long[] {-1});
        Ends.ask(check, "t and its ninth ", new int[][] {{0, 1, 0, 0, 0, 0, 0, 0, 0, 1}}, 1,
            (x, asked, to) -> x.aRow(asked[0], to[0]), new long[] {1, 0, 0, 0, 0, 0, 0, 0, 1, 0});
    }

    private static long factorial(int n) {
        return n == 0 ? 1 : n * factorial(n - 1);
    }

    /** Promise 29: "NOT: f cannot be TURNED." */
    private static void aRowOfWhatCannotBe() {
        for (int zero : ZEROS) {
            with(GONE, 0, zero, 1).not("c 1 is " + zero, x -> x.aRow(GONE, GONE));
            with(GONE, zero, 1).inside("c 0 is " + zero, 1, x -> x.aRow(GONE, LOST), LOST);
        }
        for (int c : NOT_ZEROS) {
            with(GONE, c, 1).not("c 0 is " + c, x -> x.aRow(GONE, GONE));
            with(GONE, 0, c).inside("c 1 is " + c, Math.floorMod(c, 10007), x -> x.aRow(GONE, LOST), LOST);
        }
        edges.not("empty", x -> x.aRow(EMPTY, G));
        edges.not("flat", x -> x.aRow(FLAT, G));
        edges.not("g", x -> x.aRow(G, G));
    }

    /** Promise 29: "BAD; NULL" */
    private static void aRowOutside() {
        edges.badBeside("aRow f", 0, 7, (x, v) -> x.aRow(v, G));
        edges.badBeside("aRow u", 0, 7, (x, v) -> x.aRow(F, v));
        edges.badBeside("aRow u of a LOST one", 0, 7, (x, v) -> x.aRow(LOST, v));
        edges.badBeside("aRow u of what cannot be", 0, 7, (x, v) -> x.aRow(G, v));
        edges.found("aRow LOST", 1, x -> x.aRow(LOST, G));
        edges.found("aRow LOST onto itself", 1, x -> x.aRow(GONE, GONE));
    }

    /** Promise 30: "0 SHEETS that are not LOST": none to eight. */
    private static void countOfSheets() {
        DeltaLadders x = new DeltaLadders();
        for (int s = 0; s < 8; s++) {
            check.due("before " + s, x.count(0), s);
            x.sheet(s, 0, 0);
            check.due("an empty one counts", x.count(0), s + 1);
            x.sheet(s, 2, 20);
            check.due("a new row is the same SHEET", x.count(0), s + 1);
        }
        for (int s = 7; s >= 0; s--) {
            x.lose(s);
            check.due("after " + s, x.count(0), s);
            x.lose(s);
            check.due("lost once", x.count(0), s);
        }
        edges.inside("of the room", 6, y -> y.count(0));
    }

    /** Promise 30: "1 LADDERS": none to four. */
    private static void countOfLadders() {
        DeltaLadders x = new DeltaLadders();
        x.kind(0, 7, 1);
        x.kind(1, 0, 0);
        for (int k = 3; k >= 0; k--) {
            check.due("before " + k, x.count(1), 3 - k);
            x.ladder(k, 1, 1);
            check.due("a refused one does not count", x.count(1), 3 - k);
            x.ladder(k, 0, 1);
            x.ladder(k, 0, 1);
            check.due("after " + k, x.count(1), 4 - k);
        }
        x.lose(0);
        x.lose(1);
        check.due("they stay without their SHEETS", x.count(1), 4);
        edges.inside("of the room", 2, y -> y.count(1));
    }

    /** Promise 30: "2 the number of the latest FINDING (0 before any)" */
    private static void countOfFindings() {
        DeltaLadders x = new DeltaLadders();
        check.due("before any", x.count(2), 0);
        x.sheet(0, 2, 21);
        check.due("BAD is none", x.count(2), 0);
        x.sheet(0, 2, 1);
        check.due("a good call is none", x.count(2), 0);
        x.step(0, 0, 0);
        check.due("NOT is none", x.count(2), 0);
        x.get(9, 0, 0);
        check.due("BAD of get is none", x.count(2), 0);
        x.get(0, 2, 1);
        check.due("INDEX of get is one", x.count(2), 2);
        x.get(0, 1, 1);
        check.due("CAST of get is one", x.count(2), 3);
        x.get(1, 1, 1);
        check.due("NULL of get is one", x.count(2), 1);
        x.get(0, 2, 0);
        check.due("a good get leaves it", x.count(2), 1);
    }

    /** Promise 30: "BAD." */
    private static void countOutside() {
        edges.badBeside("count", 0, 2, DeltaLadders::count);
    }

    private static final class Hash {
        private BigInteger h = BigInteger.valueOf(17);

        void add(long... more) {
            for (long one : more) {
                h = h.multiply(BigInteger.valueOf(31)).add(BigInteger.valueOf(one));
            }
        }

        long wrapped() {
            return h.longValue();
        }
    }

    /** Promise 31: nothing but count() 0 and 1. */
    private static void digestOfNothing() {
        check.due("17, 0, 0", new DeltaLadders().digest(), (17 * 31 + 0) * 31 + 0);
        DeltaLadders x = new DeltaLadders();
        x.sheet(0, 0, 0);
        x.lose(0);
        x.lose(0);
        check.due("after all are LOST again", x.digest(), 16337);
    }

    /** Promise 31: "as longs that wrap": all eight SHEETS and four LADDERS with great NUMBERS. */
    private static void digestOfAll() {
        DeltaLadders x = new DeltaLadders();
        Hash h = new Hash();
        x.kind(0, 7, 10006);
        x.kind(1, 0, 0);
        h.add(8, 4);
        for (int k = 0; k < 4; k++) {
            x.ladder(k, 0, 1);
        }
        for (int s = 0; s < 8; s++) {
            Make.ints(x, s, -1, -1, -1, -1, -1, -1, -1, -1, -1, -1, -1);
            h.add(s, 10006, 10006, 10006, 10006, 10006, 10006, 10006, 10006, 10006, 10006);
        }
        for (int k = 0; k < 4; k++) {
            h.add(k, 0, 0, 0, 0, 0, 0, 0, 0, 0, 10006);
        }
        check.due("all", x.digest(), h.wrapped());
    }

    /** Promise 31: "each SHEET that is not LOST", an empty one too; "c 0 to c 9", not item 10. */
    private static void digestOfWhatIsNotLost() {
        DeltaLadders x = new DeltaLadders();
        x.sheet(3, 0, 0);
        Hash h = new Hash();
        h.add(1, 0, 3, 0, 0, 0, 0, 0, 0, 0, 0, 0, 0);
        check.due("an empty one", x.digest(), h.wrapped());
        x.sheet(3, 2, 11);
        x.put(3, 2, 10, 1);
        check.due("item 10", x.digest(), h.wrapped());
        x.put(3, 2, 9, 1);
        check.due("item 9", x.digest(), h.wrapped() + 1);
        x.put(3, 2, 9, 10007);
        check.due("10007", x.digest(), h.wrapped());
        x.sheet(4, 2, 1);
        x.put(4, 2, 0, 6);
        x.lose(4);
        check.due("a LOST one", x.digest(), h.wrapped());
        check.due("digest changes nothing", x.digest(), h.wrapped());
        edges.inside("digest", Room.make().digest(), DeltaLadders::digest);
    }
}
