/** Promises 26 to 31: triangle, product, back, aRow, count, digest. */
public final class TrianglesTest {
    private static final int LEAST = Integer.MIN_VALUE, GREATEST = Integer.MAX_VALUE;
    private static final Check check = new Check();

    public static void main(String[] args) {
        triangle();
        product();
        productRefusals();
        back();
        backRefusals();
        aRow();
        count();
        digest();
        digestTellsTheFormOff();
        check.end("TrianglesTest");
    }

    /** Sheet 0 is 1 by (1 less t), sheet 1 is t by (1 less t): Pascal's. */
    private static DeltaLadders pascal() {
        DeltaLadders x = new DeltaLadders();
        x.kind(0, 3, 1);
        x.kind(1, 6, 10006);
        return x;
    }

    private static void triangle() {
        DeltaLadders x = pascal();
        long[] row = {1, 0, 0, 0, 0, 0, 0, 0, 0, 0};
        for (int n = 0; n < 10; n++) {
            for (int k = 0; k < 10; k++) {
                check.due("Pascal's " + n + ", " + k, x.triangle(0, 1, n, k), row[k]);
            }
            for (int k = 9; k > 0; k--) {
                row[k] += row[k - 1];
            }
        }
        Make.ints(x, 2, 0, 0, 3);
        check.due("f without c 1", x.triangle(0, 2, 5, 2), 9);
        Make.ints(x, 2, 0);
        check.due("f is 0, place 0", x.triangle(0, 2, 5, 0), 1);
        check.due("f is 0, place 1", x.triangle(0, 2, 5, 1), 0);
        check.due("g with c 0 being 0", x.triangle(1, 1, 5, 0), 1);
        long before = x.digest();
        for (int bad : new int[] {-1, 8, LEAST, GREATEST}) {
            check.refused("g " + bad, x, before, x.triangle(bad, 1, 0, 0), -2);
            check.refused("f " + bad, x, before, x.triangle(0, bad, 0, 0), -2);
        }
        for (int bad : new int[] {-1, 10, LEAST, GREATEST}) {
            check.refused("n " + bad, x, before, x.triangle(0, 1, bad, 0), -2);
            check.refused("k " + bad, x, before, x.triangle(7, 1, 0, bad), -2);
        }
        check.due("no finding", x.count(2), 0);
        check.refused("g LOST", x, before, x.triangle(7, 0, 0, 0), -11);
        check.refused("f LOST", x, before, x.triangle(0, 7, 0, 0), -11);
        check.due("NULL", x.count(2), 1);
        check.refused("f's c 0 is not 0", x, before, x.triangle(0, 0, 0, 0), -3);
    }

    /** As the product of two square tables, row by column. */
    private static void product() {
        DeltaLadders x = new DeltaLadders();
        Make.ints(x, 0, 4, 1, 7, 0, 2, 9, 10006, 3, 8, 5);
        Make.ints(x, 1, 0, 3, 5, 10000, 2, 8, 1, 0, 77, 1234);
        Make.ints(x, 2, 0, 8, 5, 1, 3);
        Make.ints(x, 3, 0, 0, 6, 1, 10006, 2);
        check.due("product", x.product(0, 1, 2, 3, 4, 5), 1);
        long[][] one = table(x, 0, 1);
        long[][] other = table(x, 2, 3);
        long[][] both = table(x, 4, 5);
        for (int n = 0; n < 10; n++) {
            for (int k = 0; k < 10; k++) {
                long total = 0;
                for (int i = 0; i < 10; i++) {
                    total += one[n][i] * other[i][k];
                }
                check.due("product " + n + ", " + k, both[n][k], total % 10007);
            }
        }
        long[] u = terms(x, 4);
        long[] v = terms(x, 5);
        x.product(0, 1, 2, 3, 1, 0);
        check.series("u onto f", x, 1, u);
        check.series("v onto g", x, 0, v);
        x = pascal();
        x.product(0, 1, 0, 1, 0, 1);
        check.series("all from the same two", x, 0, 1, 2, 4, 8, 16, 32, 64, 128, 256, 512);
        check.series("all from the same two", x, 1, 0, 1, 2, 4, 8, 16, 32, 64, 128, 256);
    }

    private static long[] terms(DeltaLadders x, int s) {
        long[] terms = new long[10];
        for (int i = 0; i < 10; i++) {
            terms[i] = x.term(s, i);
        }
        return terms;
    }

    private static long[][] table(DeltaLadders x, int g, int f) {
        long[][] table = new long[10][10];
        for (int n = 0; n < 10; n++) {
            for (int k = 0; k < 10; k++) {
                table[n][k] = x.triangle(g, f, n, k);
            }
        }
        return table;
    }

    private static void productRefusals() {
        DeltaLadders x = pascal();
        long before = x.digest();
        for (int bad : new int[] {-1, 8, LEAST, GREATEST}) {
            for (int place = 0; place < 6; place++) {
                int[] a = {0, 1, 0, 1, 2, 3};
                a[place] = bad;
                check.refused("place " + place + " " + bad, x, before,
                    x.product(a[0], a[1], a[2], a[3], a[4], a[5]), -2);
            }
        }
        check.refused("u is v, before NULL", x, before, x.product(7, 7, 7, 7, 2, 2), -2);
        check.due("no finding", x.count(2), 0);
        for (int place = 0; place < 4; place++) {
            int[] a = {0, 0, 0, 0};
            a[place] = 7;
            x.sheet(7, 0, -1);
            check.refused("NULL before NOT " + place, x, before, x.product(a[0], a[1], a[2], a[3], 2, 3), -11);
            check.due("NULL", x.count(2), 1);
        }
        check.refused("f's c 0 is not 0", x, before, x.product(0, 0, 0, 1, 2, 3), -3);
        check.refused("l's c 0 is not 0", x, before, x.product(0, 1, 0, 0, 2, 3), -3);
    }

    private static void back() {
        DeltaLadders x = pascal();
        check.due("back", x.back(0, 1, 2, 3), 1);
        check.series("back of Pascal's, g", x, 2, 1, -1, 1, -1, 1, -1, 1, -1, 1, -1);
        check.series("back of Pascal's, f", x, 3, 0, 1, -1, 1, -1, 1, -1, 1, -1, 1);
        Make.ints(x, 0, 4, 1, 7, 0, 2, 9, 10006, 3, 8, 5);
        Make.ints(x, 1, 0, 3, 5, 10000, 2, 8, 1, 0, 77, 1234);
        x.back(0, 1, 2, 3);
        x.product(0, 1, 2, 3, 4, 5);
        check.series("times its turned one, g", x, 4, 1);
        check.series("times its turned one, f", x, 5, 0, 1);
        x.product(2, 3, 0, 1, 4, 5);
        check.series("the other way, g", x, 4, 1);
        check.series("the other way, f", x, 5, 0, 1);
        long[] u = terms(x, 2);
        long[] v = terms(x, 3);
        x.back(0, 1, 1, 0);
        check.series("u onto f", x, 1, u);
        check.series("v onto g", x, 0, v);
    }

    private static void backRefusals() {
        DeltaLadders x = pascal();
        Make.ints(x, 2, 0, 0, 1);
        long before = x.digest();
        for (int bad : new int[] {-1, 8, LEAST, GREATEST}) {
            for (int place = 0; place < 4; place++) {
                int[] a = {0, 1, 3, 4};
                a[place] = bad;
                check.refused("place " + place + " " + bad, x, before, x.back(a[0], a[1], a[2], a[3]), -2);
            }
        }
        check.refused("u is v, before NULL", x, before, x.back(7, 7, 3, 3), -2);
        check.due("no finding", x.count(2), 0);
        check.refused("g LOST", x, before, x.back(7, 0, 3, 4), -11);
        check.due("NULL", x.count(2), 1);
        check.refused("f LOST", x, before, x.back(1, 7, 3, 4), -11);
        check.refused("g's c 0 is 0", x, before, x.back(1, 1, 3, 4), -3);
        check.refused("f's c 0 is not 0", x, before, x.back(0, 0, 3, 4), -3);
        check.refused("f's c 1 is 0", x, before, x.back(0, 2, 3, 4), -3);
    }

    private static void aRow() {
        DeltaLadders x = pascal();
        check.due("Pascal's", x.aRow(1, 2), 1);
        check.series("Pascal's", x, 2, 1, 1);
        Make.ints(x, 3, 0, 1, 1, 2, 5, 14, 42, 132, 429, 1430);
        x.aRow(3, 4);
        check.series("Catalan's", x, 4, 1, 1, 1, 1, 1, 1, 1, 1, 1);
        Make.ints(x, 1, 0, 3, 5, 10000, 2, 8, 1, 0, 77, 1234);
        check.due("its c 0", x.aRow(1, 5), 3);
        check.due("c 9 is 0", x.term(5, 9), 0);
        long[] row = terms(x, 5);
        long[][] table = table(x, 0, 1);
        for (int n = 0; n < 9; n++) {
            for (int k = 0; k < 9; k++) {
                long total = 0;
                for (int i = 0; k + i <= 9; i++) {
                    total += row[i] * table[n][k + i];
                }
                check.due("a row tells the next, " + n + ", " + k, table[n + 1][k + 1], total % 10007);
            }
        }
        x.aRow(1, 1);
        check.series("onto itself", x, 1, row);
        Make.ints(x, 6, 0, 0, 1);
        long before = x.digest();
        check.refused("f -1", x, before, x.aRow(-1, 2), -2);
        check.refused("f 8", x, before, x.aRow(8, 2), -2);
        check.refused("u -1", x, before, x.aRow(3, -1), -2);
        check.refused("u 8, before NULL", x, before, x.aRow(7, 8), -2);
        check.due("no finding", x.count(2), 0);
        check.refused("LOST", x, before, x.aRow(7, 2), -11);
        check.due("NULL", x.count(2), 1);
        check.refused("f's c 0 is not 0", x, before, x.aRow(0, 2), -3);
        check.refused("f's c 1 is 0", x, before, x.aRow(6, 2), -3);
    }

    private static void count() {
        DeltaLadders x = pascal();
        for (int k = 0; k < 4; k++) {
            check.due("ladders", x.count(1), k);
            x.ladder(k, 0, 1);
        }
        x.ladder(2, 0, 1);
        check.due("four ladders", x.count(1), 4);
        for (int s = 2; s < 8; s++) {
            check.due("sheets", x.count(0), s);
            x.sheet(s, 0, 0);
        }
        check.due("eight sheets", x.count(0), 8);
        x.lose(4);
        check.due("seven sheets", x.count(0), 7);
        check.due("before any finding", x.count(2), 0);
        x.term(4, 0);
        check.due("NULL", x.count(2), 1);
        x.put(5, 0, 0, 0);
        check.due("INDEX", x.count(2), 2);
        x.put(5, 1, 0, 0);
        check.due("CAST", x.count(2), 3);
        x.copy(5, 0, 1, 0, 0);
        check.due("STORE", x.count(2), 4);
        x.sheet(5, 0, -3);
        check.due("SIZE", x.count(2), 5);
        x.term(9, 0);
        x.over(0, 1, 0);
        x.term(0, 0);
        check.due("it stays through BAD, NOT and good calls", x.count(2), 5);
        for (int bad : new int[] {-1, 3, LEAST, GREATEST}) {
            check.due("count(" + bad + ")", x.count(bad), -2);
        }
    }

    private static void digest() {
        DeltaLadders x = new DeltaLadders();
        Make.ints(x, 6, 9, -1);
        x.kind(2, 0, 0);
        x.kind(3, 7, 1);
        x.ladder(3, 3, 2);
        x.ladder(1, 3, 2);
        x.lose(3);
        long h = mix(17, 2, 2);
        h = mix(h, 2, 0, 1, 0, 0, 0, 0, 0, 0, 0, 0);
        h = mix(h, 6, 9, 10006, 0, 0, 0, 0, 0, 0, 0, 0);
        h = mix(h, 1, 0, 0, 0, 0, 0, 0, 0, 0, 0, 1);
        h = mix(h, 3, 0, 0, 0, 0, 0, 0, 0, 0, 0, 1);
        check.due("digest", x.digest(), h);
        check.due("digest changes nothing", x.digest(), h);
        x.term(0, 0);
        check.due("a finding is not in it", x.digest(), h);
        x = new DeltaLadders();
        x.kind(0, 7, 1);
        x.kind(7, 0, 0);
        x.ladder(0, 0, 7);
        h = mix(17, 2, 1);
        h = mix(h, 0, 1, 0, 0, 0, 0, 0, 0, 0, 0, 0);
        h = mix(h, 7, 0, 1, 0, 0, 0, 0, 0, 0, 0, 0);
        h = mix(h, 0, 0, 0, 0, 0, 0, 0, 0, 0, 0, 1);
        check.due("the first and the last", x.digest(), h);
    }

    private static long mix(long h, long... more) {
        for (long one : more) {
            h = 31 * h + one;
        }
        return h;
    }

    private static void digestTellsTheFormOff() {
        DeltaLadders x = new DeltaLadders();
        DeltaLadders y = new DeltaLadders();
        x.sheet(0, 0, 3);
        y.sheet(0, 2, 20);
        y.put(0, 2, 10, 5);
        check.due("neither form nor items behind c 9 are in it", x.digest(), y.digest());
    }
}
