/** Promises 1 to 6: a new object, sheet, lose, put, get, copy. */
public final class SheetsTest {
    private static final int LEAST = Integer.MIN_VALUE, GREATEST = Integer.MAX_VALUE;
    private static final Check check = new Check();

    public static void main(String[] args) {
        newObject();
        sheet();
        lose();
        putAndGet();
        findingsOfPutAndGet();
        copy();
        findingsOfCopy();
        check.end("SheetsTest");
    }

    private static void newObject() {
        DeltaLadders x = new DeltaLadders();
        for (int s = 0; s < 8; s++) {
            check.due("a new sheet is LOST " + s, x.term(s, 0), -11);
        }
        for (int k = 0; k < 4; k++) {
            check.due("no ladder yet " + k, x.step(k, 0, 0), -3);
        }
        x = new DeltaLadders();
        check.due("count(0)", x.count(0), 0);
        check.due("count(1)", x.count(1), 0);
        check.due("count(2)", x.count(2), 0);
        check.due("digest of a new one", x.digest(), 17L * 31 * 31);
    }

    private static void sheet() {
        DeltaLadders x = new DeltaLadders();
        for (int form = 0; form < 3; form++) {
            check.due("sheet of 0", x.sheet(form, form, 0), 0);
            check.due("no item", x.get(form, form, 0), LEAST);
            check.due("sheet of 20", x.sheet(form, form, 20), 20);
            for (int i = 0; i < 20; i++) {
                check.due("0 at first", x.get(form, form, i), 0);
            }
        }
        x.put(2, 2, 4, 9);
        x.sheet(2, 2, 5);
        check.due("a new row is 0 again", x.get(2, 2, 4), 0);
        x.put(2, 2, 4, 9);
        x.sheet(2, 1, 5);
        check.due("of its new form", x.get(2, 1, 4), 0);
        check.due("count(0)", x.count(0), 3);

        x = new DeltaLadders();
        x.sheet(7, 2, 1);
        x.put(7, 2, 0, 5);
        long before = x.digest();
        check.refused("sheet -1", x, before, x.sheet(-1, 0, 1), -2);
        check.refused("sheet 8", x, before, x.sheet(8, 0, 1), -2);
        check.refused("form -1", x, before, x.sheet(7, -1, 1), -2);
        check.refused("form 3", x, before, x.sheet(7, 3, 1), -2);
        check.refused("21 items", x, before, x.sheet(7, 0, 21), -2);
        check.refused("the greatest size", x, before, x.sheet(7, 0, GREATEST), -2);
        check.refused("BAD before SIZE", x, before, x.sheet(8, 0, -1), -2);
        check.due("BAD is no finding", x.count(2), 0);
        check.refused("size -1", x, before, x.sheet(7, 0, -1), -15);
        check.refused("the least size", x, before, x.sheet(7, 0, LEAST), -15);
        check.due("SIZE", x.count(2), 5);
    }

    private static void lose() {
        DeltaLadders x = new DeltaLadders();
        x.sheet(3, 1, 13);
        check.due("lose", x.lose(3), 13);
        check.due("it is LOST", x.count(0), 0);
        check.due("lose again", x.lose(3), -11);
        check.due("NULL", x.count(2), 1);
        check.due("lose -1", x.lose(-1), -2);
        check.due("lose 8", x.lose(8), -2);
        x.sheet(3, 1, 0);
        check.due("an empty one is not LOST", x.count(0), 1);
        check.due("lose an empty one", x.lose(3), 0);
        x.sheet(3, 2, 4);
        check.due("back and 0", x.get(3, 2, 3), 0);
    }

    private static void putAndGet() {
        DeltaLadders x = new DeltaLadders();
        int[] given = {0, 1, -1, 127, 128, -128, -129, 255, 256, 32767, 32768, -32768, -32769, 65535, 65536, LEAST, GREATEST};
        for (int form = 0; form < 3; form++) {
            x.sheet(form, form, 20);
            for (int v : given) {
                int kept = form == 0 ? (byte) v : form == 1 ? (short) v : v;
                check.due("put", x.put(form, form, 19, v), 1);
                check.due("get of form " + form + " after " + v, x.get(form, form, 19), kept);
                check.due("its neighbour", x.get(form, form, 18), 0);
            }
        }
        check.due("no finding, not even for the least int", x.count(2), 0);
    }

    private static void findingsOfPutAndGet() {
        DeltaLadders x = new DeltaLadders();
        x.sheet(1, 1, 3);
        x.put(1, 1, 2, 5);
        int[][] asked = {
            {-1, 1, 0, -2}, {8, 1, 0, -2}, {1, -1, 0, -2}, {1, 3, 0, -2}, {0, 3, -1, -2},
            {0, 1, 0, -11}, {0, 0, -1, -11},
            {1, 0, 0, -13}, {1, 2, 0, -13}, {1, 2, 9, -13},
            {1, 1, 3, -12}, {1, 1, -1, -12}, {1, 1, LEAST, -12}, {1, 1, GREATEST, -12}};
        long before = x.digest();
        for (int[] a : asked) {
            int latest = a[3] == -2 ? 5 : -10 - a[3];
            x.sheet(7, 0, -1);
            String call = "(" + a[0] + ", " + a[1] + ", " + a[2] + ")";
            check.refused("put" + call, x, before, x.put(a[0], a[1], a[2], 7), a[3]);
            check.due("count(2) after put" + call, x.count(2), latest);
            x.sheet(7, 0, -1);
            check.refused("get" + call, x, before, x.get(a[0], a[1], a[2]), LEAST);
            check.due("count(2) after get" + call, x.count(2), latest);
        }
    }

    private static void copy() {
        DeltaLadders x = new DeltaLadders();
        Make.ints(x, 0, 1, 2, 3, 4, 5);
        Make.ints(x, 1, 11, 12, 13);
        check.due("copy", x.copy(0, 1, 1, 0, 2), 1);
        check.series("came", x, 1, 2, 3, 13);
        check.series("stayed", x, 0, 1, 2, 3, 4, 5);
        check.due("upwards in itself", x.copy(0, 0, 0, 1, 4), 1);
        check.series("as they were", x, 0, 1, 1, 2, 3, 4);
        check.due("downwards in itself", x.copy(0, 1, 0, 0, 4), 1);
        check.series("as they were", x, 0, 1, 2, 3, 4, 4);
        check.due("none, at the end", x.copy(0, 5, 1, 3, 0), 1);
        check.due("all of it", x.copy(1, 0, 0, 2, 3), 1);
        check.series("to the end", x, 0, 1, 2, 2, 3, 13);
        for (int form = 0; form < 2; form++) {
            x.sheet(2, form, 3);
            x.sheet(3, form, 2);
            x.put(2, form, 2, -7);
            check.due("copy of form " + form, x.copy(2, 1, 3, 0, 2), 1);
            check.due("came", x.get(3, form, 1), -7);
        }
        check.due("no finding", x.count(2), 0);
    }

    private static void findingsOfCopy() {
        DeltaLadders x = new DeltaLadders();
        Make.ints(x, 0, 1, 2, 3);
        Make.ints(x, 1, 4, 5);
        x.sheet(2, 1, 3);
        int[][] asked = {
            {-1, 0, 1, 0, 1, -2}, {8, 0, 1, 0, 1, -2}, {0, 0, -1, 0, 1, -2}, {0, 0, 8, 0, 1, -2}, {3, 0, 8, 0, -1, -2},
            {3, 0, 0, 0, 1, -11}, {0, 0, 3, 0, 1, -11}, {3, 0, 3, 0, 0, -11}, {3, -1, 2, 0, 0, -11},
            {0, 0, 2, 0, 1, -14}, {2, 0, 0, 0, 0, -14}, {0, -1, 2, 0, 1, -14},
            {0, -1, 1, 0, 1, -12}, {0, 0, 1, -1, 1, -12}, {0, 0, 1, 0, -1, -12},
            {0, 2, 1, 0, 2, -12}, {0, 0, 1, 1, 2, -12}, {0, 0, 1, 0, 3, -12}, {0, 0, 1, 3, 0, -12}, {0, 4, 1, 0, 0, -12},
            {0, GREATEST, 1, 0, 1, -12}, {0, 1, 1, 0, GREATEST, -12}, {0, 0, 1, GREATEST, GREATEST, -12},
            {0, LEAST, 1, 0, LEAST, -12}};
        int latest = 0;
        long before = x.digest();
        for (int[] a : asked) {
            latest = a[5] == -2 ? latest : -10 - a[5];
            String call = "copy(" + a[0] + ", " + a[1] + ", " + a[2] + ", " + a[3] + ", " + a[4] + ")";
            check.refused(call, x, before, x.copy(a[0], a[1], a[2], a[3], a[4]), a[5]);
            check.due("count(2) after " + call, x.count(2), latest);
        }
    }
}
