/** Promises 16 to 22: each sentence that names a boundary, just inside it and just outside it. */
public final class LaddersEdgesTest {
    private static final int LEAST = Edges.LEAST, GREATEST = Edges.GREATEST;
    private static final int G = Room.G, BYTES = Room.BYTES, EMPTY = Room.EMPTY, FLAT = Room.FLAT,
        LOST = Room.LOST, GONE = Room.GONE, F = Room.F;
    private static final int MIXED = Room.MIXED, NO_LADDER = Room.NO_LADDER, NEITHER = Room.NEITHER,
        FALLING = Room.FALLING;
    private static final int[] ZEROS = Edges.ZEROS, NOT_ZEROS = Edges.NOT_ZEROS;
    private static final Check check = new Check();
    private static final Edges edges = new Edges(check, Room::make);

    public static void main(String[] args) {
        ladderAtAllPlaces();
        ladderOfWhatCannotBe();
        ladderOutside();
        aRefusedLadderStays();
        stepsUpToTheDegree();
        stepOutside();
        stepOfNone();
        atAnywhere();
        atOutside();
        tellFirstAndLast();
        tellOutside();
        lowersFirstLastAndNone();
        lowersOutside();
        boundUpToTheDegree();
        boundOutside();
        binomialFromNoneToNine();
        binomialOutside();
        check.end("LaddersEdgesTest");
    }

    private static Edges with(int s, int... items) {
        return Edges.ofRoomWith(check, s, items);
    }

    /** Promise 16: "A LADDER of g and f: 1." for LADDERS 0 .. 3, new ones and in another's place. */
    private static void ladderAtAllPlaces() {
        for (int k = 0; k < 4; k++) {
            int place = k;
            edges.inside("ladder " + k, 1, x -> x.ladder(place, G, F), Edges.ladder(k));
            Ends.ask(check, "ladder " + k, new int[][] {{1, 2}, {0, 1, 3}}, 1, (x, asked, to) -> {
                int made = x.ladder(place, asked[0], asked[1]);
                check.due("it is there", x.count(1), 1);
                check.due("its p 0", x.step(place, 0, 0), 1);
                check.due("its p 1", x.step(place, 1, 0), 10005);
                return made;
            });
        }
        DeltaLadders x = Room.make();
        check.due("two", x.count(1), 2);
        x.ladder(FALLING, G, F);
        check.due("in another's place", x.count(1), 2);
        x.ladder(NO_LADDER, G, F);
        check.due("a new one", x.count(1), 3);
        check.due("the same one", x.step(NO_LADDER, 9, 4), x.step(FALLING, 9, 4));
    }

    /** Terms: "g (c 0 not 0) and f (c 0 is 0, c 1 not)"; Promise 16: "NOT." */
    private static void ladderOfWhatCannotBe() {
        for (int k : new int[] {MIXED, NO_LADDER}) {
            for (int zero : ZEROS) {
                with(GONE, zero, 1).not("g's c 0 is " + zero, x -> x.ladder(k, GONE, F));
                with(GONE, 0, zero, 1).not("f's c 1 is " + zero, x -> x.ladder(k, G, GONE));
                with(GONE, zero, 1).inside("f's c 0 is " + zero, 1, x -> x.ladder(k, G, GONE), Edges.ladder(k));
            }
            for (int c : NOT_ZEROS) {
                with(GONE, c, 1).not("f's c 0 is " + c, x -> x.ladder(k, G, GONE));
                with(GONE, c).inside("g's c 0 is " + c, 1, x -> x.ladder(k, GONE, F), Edges.ladder(k));
                with(GONE, 0, c).inside("f's c 1 is " + c, 1, x -> x.ladder(k, G, GONE), Edges.ladder(k));
            }
            edges.not("g is empty", x -> x.ladder(k, EMPTY, F));
            edges.not("f is empty", x -> x.ladder(k, G, EMPTY));
            edges.not("g is flat", x -> x.ladder(k, FLAT, F));
            edges.not("f is flat", x -> x.ladder(k, G, FLAT));
            edges.not("g for f", x -> x.ladder(k, G, G));
            edges.not("f for g", x -> x.ladder(k, F, F));
            edges.not("neither", x -> x.ladder(k, F, G));
        }
    }

    /** Promise 16: "BAD; NULL" */
    private static void ladderOutside() {
        edges.badBeside("ladder k", 0, 3, (x, v) -> x.ladder(v, G, F));
        edges.badBeside("ladder k of LOST ones", 0, 3, (x, v) -> x.ladder(v, LOST, GONE));
        edges.badBeside("ladder g", 0, 7, (x, v) -> x.ladder(MIXED, v, F));
        edges.badBeside("ladder f", 0, 7, (x, v) -> x.ladder(MIXED, G, v));
        edges.badBeside("ladder f, g LOST", 0, 7, (x, v) -> x.ladder(MIXED, LOST, v));
        edges.found("ladder g LOST", 1, x -> x.ladder(MIXED, LOST, F));
        edges.found("ladder f LOST", 1, x -> x.ladder(MIXED, G, LOST));
        edges.found("ladder both LOST", 1, x -> x.ladder(NO_LADDER, LOST, GONE));
        edges.found("ladder g LOST, f not as it is to be", 1, x -> x.ladder(MIXED, LOST, G));
        edges.found("ladder f LOST, g not as it is to be", 1, x -> x.ladder(MIXED, F, LOST));
    }

    /** "They change nothing": the LADDER in whose place another was asked for, and its SHEETS gone since. */
    private static void aRefusedLadderStays() {
        DeltaLadders x = Room.make();
        int lead = x.step(MIXED, 9, 9);
        x.lose(G);
        x.lose(F);
        check.due("g LOST", x.ladder(MIXED, G, F), -11);
        check.due("NOT", x.ladder(MIXED, FLAT, FLAT), -3);
        check.due("BAD", x.ladder(MIXED, FLAT, 8), -2);
        check.due("it stays", x.step(MIXED, 9, 9), lead);
        check.due("two", x.count(1), 2);
    }

    private static long threeToThe(int n) {
        return n == 0 ? 1 : 3 * threeToThe(n - 1);
    }

    /** Terms: "p 0 .. p 9 in x, p n of degree n"; Promise 17: "What x to the j has in p n of a LADDER." */
    private static void stepsUpToTheDegree() {
        for (int n = 0; n < 10; n++) {
            int row = n;
            edges.inside("lead of p " + n, Make.by(1, 4 * threeToThe(n)), x -> x.step(MIXED, row, row));
            edges.inside("lead of falling p " + n, 1, x -> x.step(FALLING, row, row));
            for (int j = n + 1; j < 10; j++) {
                int above = j;
                edges.inside("above p " + n, 0, x -> x.step(MIXED, row, above));
                edges.inside("above falling p " + n, 0, x -> x.step(FALLING, row, above));
            }
        }
        edges.inside("the first of the first", Make.by(1, 4), x -> x.step(0, 0, 0));
        edges.inside("x in p 9", 40320 % 10007, x -> x.step(3, 9, 1));
    }

    /** Promise 17: "BAD" */
    private static void stepOutside() {
        for (int k : new int[] {MIXED, FALLING, NO_LADDER}) {
            edges.badBeside("step n", 0, 9, (x, v) -> x.step(k, v, 0));
            edges.badBeside("step j", 0, 9, (x, v) -> x.step(k, 9, v));
        }
        edges.badBeside("step k", 0, 3, (x, v) -> x.step(v, 0, 0));
    }

    /** Promise 17: "NOT.": a LADDER that is none. */
    private static void stepOfNone() {
        edges.not("step of none", x -> x.step(NO_LADDER, 0, 0));
        edges.not("the last step of none", x -> x.step(NEITHER, 9, 9));
        edges.not("above the degree of none", x -> x.step(NEITHER, 0, 9));
    }

    /** Promise 18: "p n of a LADDER at x." */
    private static void atAnywhere() {
        int[][] asked = {{0, 0}, {8, 0}, {9, 362880 % 10007}, {10, 3628800 % 10007}, {10006, -362880}, {10007, 0},
            {10015, 0}, {10016, 362880}, {-1, -362880}, {-10007, 0}, {-9998, 362880}};
        for (int[] a : asked) {
            edges.inside("falling p 9 at " + a[0], Math.floorMod(a[1], 10007), x -> x.at(FALLING, 9, a[0]));
        }
        for (int far : new int[] {LEAST, GREATEST, 0, 10006, -1}) {
            edges.inside("falling p 0 at " + far, 1, x -> x.at(FALLING, 0, far));
            edges.inside("falling p 1 at " + far, Math.floorMod(far, 10007), x -> x.at(FALLING, 1, far));
            edges.inside("mixed p 0 at " + far, Make.by(1, 4), x -> x.at(MIXED, 0, far));
        }
    }

    /** Promise 18: "BAD; NOT." */
    private static void atOutside() {
        edges.badBeside("at k", 0, 3, (x, v) -> x.at(v, 0, 0));
        edges.badBeside("at n", 0, 9, (x, v) -> x.at(FALLING, v, 0));
        edges.badBeside("at n of none", 0, 9, (x, v) -> x.at(NO_LADDER, v, 0));
        edges.not("at of none", x -> x.at(NO_LADDER, 0, 0));
        edges.not("at of none, far", x -> x.at(NEITHER, 9, LEAST));
    }

    /** Promise 19: "SHEET u becomes p n of a LADDER: its c 9." */
    private static void tellFirstAndLast() {
        for (int u : new int[] {0, 7, LOST, BYTES}) {
            edges.inside("tell p 9", 1, x -> x.tell(FALLING, 9, u), u);
            edges.inside("tell p 8", 0, x -> x.tell(FALLING, 8, u), u);
            edges.inside("tell p 0", 0, x -> x.tell(FALLING, 0, u), u);
            edges.inside("tell the other's p 9", Make.by(1, 4 * threeToThe(9)), x -> x.tell(MIXED, 9, u), u);
            DeltaLadders x = Room.make();
            x.tell(FALLING, 0, u);
            check.series("p 0", x, u, 1);
            x.tell(FALLING, 9, u);
            check.series("p 9", x, u, 0, 40320, -109584, 118124, -67284, 22449, -4536, 546, -36, 1);
            check.due("ten items", x.lose(u), 10);
        }
    }

    /** Promise 19: "BAD; NOT." */
    private static void tellOutside() {
        edges.badBeside("tell k", 0, 3, (x, v) -> x.tell(v, 0, G));
        edges.badBeside("tell n", 0, 9, (x, v) -> x.tell(FALLING, v, G));
        edges.badBeside("tell u", 0, 7, (x, v) -> x.tell(FALLING, 0, v));
        edges.badBeside("tell n of none", 0, 9, (x, v) -> x.tell(NO_LADDER, v, G));
        edges.badBeside("tell u of none", 0, 7, (x, v) -> x.tell(NO_LADDER, 0, v));
        edges.not("tell of none", x -> x.tell(NO_LADDER, 0, G));
        edges.not("tell of none to a LOST one", x -> x.tell(NEITHER, 9, LOST));
    }

    /** Promise 20: "The first n from 1 on for which the OPERATOR .. does not make n p (n - 1) of p n; NONE." */
    private static void lowersFirstLastAndNone() {
        for (int n = 0; n < 12; n++) {
            int[] items = java.util.Arrays.copyOf(Room.F_ITEMS, 12);
            items[n]++;
            int first = n == 0 ? 1 : n < 10 ? n : -1;
            with(GONE, items).inside("wrong in item " + n, first, x -> x.lowers(MIXED, GONE));
        }
        edges.inside("its own", -1, x -> x.lowers(MIXED, F));
        edges.inside("another's", 1, x -> x.lowers(FALLING, F));
        edges.inside("the empty one", 1, x -> x.lowers(FALLING, EMPTY));
        Ends.ask(check, "t for powers ", new int[][] {{1}, {0, 1}}, -1, (x, asked, to) -> {
            x.ladder(2, asked[0], asked[1]);
            return x.lowers(2, asked[1]);
        });
    }

    /** Promise 20: "BAD: the LADDER, the SHEET; NULL; NOT." */
    private static void lowersOutside() {
        edges.badBeside("lowers k", 0, 3, (x, v) -> x.lowers(v, F));
        edges.badBeside("lowers k, s LOST", 0, 3, (x, v) -> x.lowers(v, LOST));
        edges.badBeside("lowers s", 0, 7, (x, v) -> x.lowers(MIXED, v));
        edges.badBeside("lowers s of none", 0, 7, (x, v) -> x.lowers(NO_LADDER, v));
        edges.found("lowers LOST", 1, x -> x.lowers(MIXED, LOST));
        edges.found("lowers LOST of none", 1, x -> x.lowers(NO_LADDER, GONE));
        edges.not("lowers of none", x -> x.lowers(NO_LADDER, F));
        edges.not("lowers of none, s empty", x -> x.lowers(NEITHER, EMPTY));
    }

    /** Promise 21: "b n j of two LADDERS." up to the degree, 0 above it. */
    private static void boundUpToTheDegree() {
        for (int n = 0; n < 10; n++) {
            int row = n;
            edges.inside("lead " + n, 4 * threeToThe(n) % 10007, x -> x.bound(FALLING, MIXED, row, row));
            edges.inside("the other's lead " + n, Make.by(1, 4 * threeToThe(n)), x -> x.bound(MIXED, FALLING, row, row));
            for (int j = 0; j < 10; j++) {
                int column = j;
                edges.inside("in itself", j == n ? 1 : 0, x -> x.bound(MIXED, MIXED, row, column));
                if (j > n) {
                    edges.inside("above " + n, 0, x -> x.bound(FALLING, MIXED, row, column));
                    edges.inside("above the other's " + n, 0, x -> x.bound(MIXED, FALLING, row, column));
                }
            }
        }
    }

    /** Promise 21: "BAD; NOT." */
    private static void boundOutside() {
        edges.badBeside("bound one", 0, 3, (x, v) -> x.bound(v, MIXED, 0, 0));
        edges.badBeside("bound other", 0, 3, (x, v) -> x.bound(MIXED, v, 0, 0));
        edges.badBeside("bound other, one is none", 0, 3, (x, v) -> x.bound(NO_LADDER, v, 0, 0));
        edges.badBeside("bound n", 0, 9, (x, v) -> x.bound(MIXED, FALLING, v, 0));
        edges.badBeside("bound j", 0, 9, (x, v) -> x.bound(MIXED, FALLING, 9, v));
        edges.badBeside("bound n of none", 0, 9, (x, v) -> x.bound(NO_LADDER, NEITHER, v, 0));
        edges.badBeside("bound j of none", 0, 9, (x, v) -> x.bound(NO_LADDER, NEITHER, 0, v));
        edges.not("one is none", x -> x.bound(NO_LADDER, MIXED, 0, 0));
        edges.not("other is none", x -> x.bound(MIXED, NO_LADDER, 0, 0));
        edges.not("both are none", x -> x.bound(NO_LADDER, NEITHER, 9, 9));
        edges.not("one is none, above its degree", x -> x.bound(NEITHER, MIXED, 0, 9));
    }

    /** Promise 22: "The greatest n (0 to 9) up to which a LADDER is BINOMIAL; NONE: not even to 0." */
    private static void binomialFromNoneToNine() {
        for (int c : new int[] {2, 10006, -1, 5003, LEAST}) {
            binomialOf("p 0 is 1 by " + c, -1, c);
        }
        for (int c : new int[] {1, 10008, -10006}) {
            binomialOf("p 0 is 1", 9, c);
        }
        for (int n = 1; n < 12; n++) {
            int[] items = new int[12];
            items[0] = 1;
            items[n] = 5;
            binomialOf("1 and 5 t to the " + n, n < 10 ? n - 1 : 9, items);
            items[n] = 10007;
            binomialOf("1 and 10007 t to the " + n, 9, items);
        }
        edges.inside("falling ones", 9, x -> x.binomial(FALLING));
        edges.inside("mixed ones", -1, x -> x.binomial(MIXED));
    }

    private static void binomialOf(String name, int want, int... g) {
        for (int k = 0; k < 4; k++) {
            DeltaLadders x = new DeltaLadders();
            Make.ints(x, 0, g);
            Make.ints(x, 1, Room.F_ITEMS);
            x.ladder(k, 0, 1);
            check.due(name, x.binomial(k), want);
            check.due("no finding", x.count(2), 0);
        }
    }

    /** Promise 22: "BAD; NOT." */
    private static void binomialOutside() {
        edges.badBeside("binomial", 0, 3, DeltaLadders::binomial);
        edges.not("binomial of none", x -> x.binomial(NO_LADDER));
        edges.not("binomial of the other none", x -> x.binomial(NEITHER));
    }
}
