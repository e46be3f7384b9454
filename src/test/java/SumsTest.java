/** Promises 23 to 25: sum, through, difference. */
public final class SumsTest {
    private static final int LEAST = Integer.MIN_VALUE, GREATEST = Integer.MAX_VALUE;
    private static final int[] POLYNOMIAL = {7, -3, 12, 0, 5, 10006, 4, 2, 9, 31, 99};
    private static final Check check = new Check();

    public static void main(String[] args) {
        sum();
        sumOfVeryMany();
        through();
        throughRefusals();
        difference();
        check.end("SumsTest");
    }

    private static DeltaLadders withPolynomial() {
        DeltaLadders x = new DeltaLadders();
        Make.ints(x, 0, POLYNOMIAL);
        return x;
    }

    private static void sum() {
        DeltaLadders x = withPolynomial();
        for (int a : new int[] {0, 1, -4, 10000, 10007, LEAST, GREATEST - 40}) {
            x = withPolynomial();
            long total = 0;
            for (int many = 0; many < 40; many++) {
                check.due("sum from " + a + ", " + many, x.sum(0, a, many), total % 10007);
                total += x.value(0, a + many);
            }
        }
        check.due("a wraps as a number, not as an int", x.sum(0, GREATEST, 2),
            (x.value(0, GREATEST) + x.value(0, GREATEST % 10007 + 1)) % 10007);
        long before = x.digest();
        check.refused("s -1", x, before, x.sum(-1, 0, 0), -2);
        check.refused("s 8", x, before, x.sum(8, 0, 0), -2);
        check.refused("many -1", x, before, x.sum(0, 0, -1), -2);
        check.refused("many 2000000001", x, before, x.sum(0, 0, 2000000001), -2);
        check.refused("many of the least", x, before, x.sum(0, 0, LEAST), -2);
        check.refused("BAD before NULL", x, before, x.sum(7, 0, -1), -2);
        check.due("no finding", x.count(2), 0);
        check.refused("LOST", x, before, x.sum(7, 0, 1), -11);
        check.due("NULL", x.count(2), 1);
    }

    private static void sumOfVeryMany() {
        DeltaLadders x = new DeltaLadders();
        Make.ints(x, 0, 1);
        check.due("2000000000 ones", x.sum(0, 5, 2000000000), 2000000000 % 10007);
        check.due("10007 ones", x.sum(0, 5, 10007), 0);
        Make.ints(x, 0, 0, 1);
        check.due("0 .. 1999999999", x.sum(0, 0, 2000000000), 2000000000L * 1999999999L / 2 % 10007);
        Make.ints(x, 0, POLYNOMIAL);
        long total = 0;
        for (int i = 0; i < 2000000000 % 10007; i++) {
            total += valueAt(i + 3);
        }
        check.due("whole turns of 10007 add nothing", x.sum(0, 3, 2000000000), total % 10007);
    }

    private static long valueAt(long at) {
        long total = 0;
        for (int i = 9; i >= 0; i--) {
            total = Math.floorMod(total * at + POLYNOMIAL[i], 10007L);
        }
        return total;
    }

    private static void through() {
        DeltaLadders x = new DeltaLadders();
        Make.ints(x, 0, 3, 1, 4, 1, 5, 9, 2, 6, 5, 3, 77);
        for (int n = 1; n <= 10; n++) {
            int degree = x.through(0, n, 1);
            for (int i = 0; i < n; i++) {
                check.due("through " + n + " at " + i, x.value(1, i), x.term(0, i));
            }
            check.due("degree below " + n, degree < n);
            check.due("its leading term is not 0", x.term(1, degree) != 0);
            for (int i = degree + 1; i < 10; i++) {
                check.due("nothing above its degree", x.term(1, i), 0);
            }
        }
        Make.ints(x, 0, 0, 1, 4, 9, 16, 25, 36, 49, 64, 81);
        check.due("squares", x.through(0, 10, 1), 2);
        check.series("squares", x, 1, 0, 0, 1);
        check.due("only the first two", x.through(0, 2, 1), 1);
        check.series("only the first two", x, 1, 0, 1);
        Make.ints(x, 0, 5, 5, 5, 6);
        check.due("a number", x.through(0, 3, 1), 0);
        check.series("a number", x, 1, 5);
        x.sheet(0, 0, 0);
        check.due("all are 0", x.through(0, 10, 1), 0);
        check.series("all are 0", x, 1);
        Make.ints(x, 0, -1, 10007, 1);
        check.due("onto itself", x.through(0, 3, 0), 1);
        check.series("onto itself", x, 0, -1, 1);
    }

    private static void throughRefusals() {
        DeltaLadders x = withPolynomial();
        long before = x.digest();
        check.refused("s -1", x, before, x.through(-1, 1, 1), -2);
        check.refused("s 8", x, before, x.through(8, 1, 1), -2);
        check.refused("n 0", x, before, x.through(0, 0, 1), -2);
        check.refused("n 11", x, before, x.through(0, 11, 1), -2);
        check.refused("n of the least", x, before, x.through(0, LEAST, 1), -2);
        check.refused("u -1", x, before, x.through(0, 1, -1), -2);
        check.refused("u 8", x, before, x.through(0, 1, 8), -2);
        check.refused("BAD before NULL", x, before, x.through(7, 0, 1), -2);
        check.due("no finding", x.count(2), 0);
        check.refused("LOST", x, before, x.through(7, 1, 1), -11);
        check.due("NULL", x.count(2), 1);
    }

    private static void difference() {
        DeltaLadders x = withPolynomial();
        for (int a : new int[] {0, 4, -3, 10005, LEAST, GREATEST}) {
            int start = Math.floorMod(a, 10007);
            check.due("none", x.difference(0, 0, a), x.value(0, a));
            check.due("first", x.difference(0, 1, a),
                Math.floorMod(x.value(0, start + 1) - x.value(0, start), 10007));
            check.due("second", x.difference(0, 2, a),
                Math.floorMod(x.value(0, start + 2) - 2 * x.value(0, start + 1) + x.value(0, start), 10007));
            check.due("ninth", x.difference(0, 9, a), 362880L * 31 % 10007);
        }
        for (int k = 0; k < 9; k++) {
            check.due("each is the difference of the one before", x.difference(0, k + 1, 6),
                Math.floorMod(x.difference(0, k, 7) - x.difference(0, k, 6), 10007));
        }
        long before = x.digest();
        check.refused("s -1", x, before, x.difference(-1, 0, 0), -2);
        check.refused("s 8", x, before, x.difference(8, 0, 0), -2);
        check.refused("k -1", x, before, x.difference(0, -1, 0), -2);
        check.refused("k 10", x, before, x.difference(0, 10, 0), -2);
        check.refused("BAD before NULL", x, before, x.difference(7, 10, 0), -2);
        check.due("no finding", x.count(2), 0);
        check.refused("LOST", x, before, x.difference(7, 0, 0), -11);
        check.due("NULL", x.count(2), 1);
    }
}
