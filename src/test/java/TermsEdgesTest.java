/** The boundaries that 'Terms' names ahead of the promises, each sentence with a test of its own. */
public final class TermsEdgesTest {
    private static final int LEAST = Edges.LEAST, GREATEST = Edges.GREATEST;
    private static final Check check = new Check();
    private static final Edges edges = new Edges(check, Room::make);

    public static void main(String[] args) {
        numbersWrap();
        toDivide();
        notByZero();
        itemsAsNumbers();
        noSuchItemIsZero();
        cutBehindTheNinth();
        newRowOfTenInts();
        findingsTellTheirNumbers();
        refusalsFirstThatFits();
        the512thCall();
        check.end("TermsEdgesTest");
    }

    private static DeltaLadders with(int c, int d) {
        DeltaLadders x = new DeltaLadders();
        x.kind(0, 7, c);
        x.kind(1, 7, d);
        return x;
    }

    /** "NUMBERS are 0 .. 10006, reckoned modulo 10007" */
    private static void numbersWrap() {
        int[][] asked = {
            {10006, 0, 0, 10006}, {10005, 1, 0, 10006}, {10006, 1, 0, 0}, {10006, 10006, 0, 10005},
            {1, 1, 1, 0}, {0, 1, 1, 10006}, {0, 10006, 1, 1},
            {10006, 1, 2, 10006}, {10006, 10006, 2, 1}, {5003, 2, 2, 10006}, {5004, 2, 2, 1}, {10006, 0, 2, 0}};
        for (int[] a : asked) {
            DeltaLadders x = with(a[0], a[1]);
            x.join(0, 1, 2, a[2]);
            check.due(a[0] + " join " + a[2] + " " + a[1], x.term(2, 0), a[3]);
        }
    }

    /** "TO DIVIDE is times the one number whose product with it is 1": each of the numbers but 0. */
    private static void toDivide() {
        for (int a = 1; a < 10007; a++) {
            DeltaLadders x = with(1, a);
            x.over(0, 1, 2);
            check.due("1 by " + a + ", times it", (long) x.term(2, 0) * a % 10007, 1);
        }
        check.due("10006 is its own", oneBy(10006), 10006);
        check.due("1 by 2", oneBy(2), 5004);
    }

    private static int oneBy(int a) {
        DeltaLadders x = with(1, a);
        x.over(0, 1, 2);
        return x.term(2, 0);
    }

    /** "not by 0": nor by what is 0 as a NUMBER; its neighbours divide. */
    private static void notByZero() {
        for (int zero : Edges.ZEROS) {
            Edges.ofRoomWith(check, Room.G, zero, 1).not("by " + zero, x -> x.over(Room.F, Room.G, Room.F));
            for (int beside : new int[] {zero - 1, zero + 1}) {
                DeltaLadders x = new DeltaLadders();
                Make.ints(x, 0, beside == zero - 1 ? -1 : 1);
                Make.ints(x, 1, beside);
                check.due("by " + beside, x.over(0, 1, 2), 0);
                check.series("by " + beside, x, 2, 1);
            }
        }
    }

    /** "item i modulo 10007 (from 0 on) is c i" */
    private static void itemsAsNumbers() {
        int[][] told = {
            {0, 0}, {1, 1}, {10006, 10006}, {10007, 0}, {10008, 1}, {-1, 10006}, {-10006, 1}, {-10007, 0}, {-10008, 10006},
            {GREATEST, 1461}, {LEAST, 8545}, {GREATEST - 1461, 0}, {GREATEST - 1462, 10006}};
        for (int[] a : told) {
            for (int i = 0; i < 10; i++) {
                DeltaLadders x = new DeltaLadders();
                x.sheet(0, 2, 20);
                x.put(0, 2, i, a[0]);
                check.due("item " + i + " " + a[0], x.term(0, i), a[1]);
                check.due("the item stays", x.get(0, 2, i), a[0]);
            }
        }
        DeltaLadders x = new DeltaLadders();
        x.sheet(0, 0, 2);
        x.put(0, 0, 0, 127);
        x.put(0, 0, 1, 128);
        check.series("bytes", x, 0, 127, 10007 - 128);
        x.sheet(0, 1, 4);
        x.put(0, 1, 0, 32767);
        x.put(0, 1, 1, 32768);
        x.put(0, 1, 2, 10007);
        x.put(0, 1, 3, -10008);
        check.series("shorts", x, 0, 32767 - 3 * 10007, 4 * 10007 - 32768, 0, 10006);
    }

    /** "0, if there is no such item": rows of 0, of just too few, of just ten, of more than are told. */
    private static void noSuchItemIsZero() {
        for (int form = 0; form < 3; form++) {
            for (int size = 0; size <= 20; size++) {
                DeltaLadders x = new DeltaLadders();
                x.sheet(0, form, size);
                for (int i = 0; i < size; i++) {
                    x.put(0, form, i, i + 1);
                }
                for (int i = 0; i < 10; i++) {
                    check.due("c " + i + " of " + size, x.term(0, i), i < size ? i + 1 : 0);
                }
                check.due("no finding", x.count(2), 0);
            }
        }
        DeltaLadders x = new DeltaLadders();
        Make.ints(x, 0, 1, 2, 3, 4, 5, 6, 7, 8, 9, 10, 11, 12);
        x.sheet(0, 2, 3);
        check.series("items of a row before are not there", x, 0);
    }

    /** "What comes of SERIES (cut behind t to the 9)" */
    private static void cutBehindTheNinth() {
        for (int i = 0; i < 10; i++) {
            for (int j = 0; j < 10; j++) {
                DeltaLadders x = new DeltaLadders();
                x.sheet(0, 2, 10);
                x.put(0, 2, i, 1);
                x.sheet(1, 2, 10);
                x.put(1, 2, j, 1);
                check.due("t to the " + i + " and " + j, x.join(0, 1, 2, 2), i + j == 9 ? 1 : 0);
                long[] want = new long[20];
                want[i + j] = 1;
                check.series("t to the " + i + " and " + j, x, 2, java.util.Arrays.copyOf(want, 10));
            }
        }
        DeltaLadders x = new DeltaLadders();
        Make.ints(x, 0, 0, 0, 0, 0, 0, 0, 0, 0, 0, 1, 6, 7);
        Make.ints(x, 1, 0, 0, 1);
        check.due("items behind the ninth are in no sum", x.join(0, 1, 2, 0), 1);
        check.series("items behind the ninth", x, 2, 0, 0, 1, 0, 0, 0, 0, 0, 0, 1);
        check.due("t t to the 4", x.power(1, 4, 2), 0);
        check.series("t t to the 4", x, 2, 0, 0, 0, 0, 0, 0, 0, 0, 1);
        check.due("t t to the 5", x.power(1, 5, 2), 0);
        check.series("t t to the 5", x, 2);
    }

    /** "a SHEET that becomes a new row of FORM 2 with 10 items": whatever it was before. */
    private static void newRowOfTenInts() {
        for (int size : new int[] {-1, 0, 9, 10, 11, 20}) {
            for (int form = 0; form < 3; form++) {
                DeltaLadders x = new DeltaLadders();
                if (size >= 0) {
                    x.sheet(4, form, size);
                    for (int i = 0; i < size; i++) {
                        x.put(4, form, i, 77);
                    }
                }
                x.kind(4, 7, 5);
                check.due("item 0", x.get(4, 2, 0), 5);
                check.due("item 9", x.get(4, 2, 9), 0);
                check.due("no finding yet", x.count(2), 0);
                check.due("no item 10", x.put(4, 2, 10, 1), -12);
                check.due("no bytes", x.put(4, 0, 0, 1), -13);
                check.due("no shorts", x.put(4, 1, 0, 1), -13);
                check.due("ten items", x.lose(4), 10);
            }
        }
    }

    /** "FINDINGS (answers -10 less the number; they change nothing but count() 2)" */
    private static void findingsTellTheirNumbers() {
        edges.found("1 NULL", 1, x -> x.lose(Room.LOST));
        edges.found("2 INDEX", 2, x -> x.put(Room.G, 2, 10, 1));
        edges.found("3 CAST", 3, x -> x.put(Room.G, 1, 0, 1));
        edges.found("4 STORE", 4, x -> x.copy(Room.G, 0, Room.BYTES, 0, 1));
        edges.found("5 SIZE", 5, x -> x.sheet(Room.G, 2, -1));
        check.due("-10 less 1", Room.make().lose(Room.LOST), -11);
        check.due("-10 less 5", Room.make().sheet(Room.G, 2, -1), -15);
        for (int first = 0; first < 5; first++) {
            for (int second = 0; second < 5; second++) {
                DeltaLadders x = Room.make();
                find(x, first);
                find(x, second);
                check.due("the latest of " + first + ", " + second, x.count(2), second + 1);
            }
        }
    }

    private static void find(DeltaLadders x, int which) {
        switch (which) {
            case 0 -> x.lose(Room.LOST);
            case 1 -> x.put(Room.G, 2, 10, 1);
            case 2 -> x.put(Room.G, 1, 0, 1);
            case 3 -> x.copy(Room.G, 0, Room.BYTES, 0, 1);
            default -> x.sheet(Room.G, 2, -1);
        }
    }

    /** "Refusals, the first that fits: BAD -2, FINDINGS, NOT -3": all three fit, then two, then one. */
    private static void refusalsFirstThatFits() {
        int lost = Room.LOST, zero = Room.EMPTY, g = Room.G, f = Room.F;
        edges.bad("over, all", x -> x.over(lost, zero, 8));
        edges.found("over, two", 1, x -> x.over(lost, zero, g));
        edges.not("over, one", x -> x.over(g, zero, g));
        edges.bad("into, all", x -> x.into(lost, g, 8));
        edges.found("into, two", 1, x -> x.into(lost, g, g));
        edges.not("into, one", x -> x.into(g, g, g));
        edges.bad("ladder, all", x -> x.ladder(4, zero, lost));
        edges.found("ladder, two", 1, x -> x.ladder(0, zero, lost));
        edges.not("ladder, one", x -> x.ladder(0, zero, f));
        edges.bad("lowers, all", x -> x.lowers(Room.NO_LADDER, 8));
        edges.found("lowers, two", 1, x -> x.lowers(Room.NO_LADDER, lost));
        edges.not("lowers, one", x -> x.lowers(Room.NO_LADDER, f));
        edges.bad("triangle, all", x -> x.triangle(lost, g, 10, 0));
        edges.found("triangle, two", 1, x -> x.triangle(lost, g, 9, 0));
        edges.not("triangle, one", x -> x.triangle(g, g, 9, 0));
        edges.bad("product, all", x -> x.product(g, g, g, lost, 2, 2));
        edges.found("product, two", 1, x -> x.product(g, g, g, lost, 2, 3));
        edges.not("product, one", x -> x.product(g, g, g, f, 2, 3));
        edges.bad("back, all", x -> x.back(zero, lost, 2, 2));
        edges.found("back, two", 1, x -> x.back(zero, lost, 2, 3));
        edges.not("back, one", x -> x.back(zero, f, 2, 3));
        edges.bad("put, BAD of all", x -> x.put(lost, 3, -1, 0));
        edges.found("put, NULL of three", 1, x -> x.put(lost, 0, -1, 0));
        edges.found("put, CAST of two", 3, x -> x.put(g, 0, -1, 0));
        edges.found("put, INDEX alone", 2, x -> x.put(g, 2, -1, 0));
        edges.bad("copy, BAD of all", x -> x.copy(lost, -1, 8, -1, -1));
        edges.found("copy, NULL of three", 1, x -> x.copy(g, -1, lost, -1, -1));
        edges.found("copy, STORE of two", 4, x -> x.copy(g, -1, Room.BYTES, -1, -1));
        edges.found("copy, INDEX alone", 2, x -> x.copy(g, -1, f, -1, -1));
        edges.bad("sheet, BAD of both", x -> x.sheet(g, 3, -1));
        edges.found("sheet, SIZE alone", 5, x -> x.sheet(g, 2, -1));
        edges.bad("step, both", x -> x.step(Room.NO_LADDER, 0, 10));
        edges.not("step, NOT alone", x -> x.step(Room.NO_LADDER, 0, 9));
    }

    /** "An object is used for at most 512 calls": the last of them is as good as the first. */
    private static void the512thCall() {
        DeltaLadders x = new DeltaLadders();
        x.sheet(0, 2, 20);
        for (int call = 2; call <= 510; call++) {
            x.put(0, 2, call % 20, call);
        }
        check.due("call 511", x.term(0, 9), 509);
        check.due("call 512", x.get(0, 2, 10), 510);
    }
}
