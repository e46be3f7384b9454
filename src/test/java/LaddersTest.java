/** Promises 16 to 22: ladder, step, at, tell, lowers, bound, binomial. */
public final class LaddersTest {
    private static final int LEAST = Integer.MIN_VALUE, GREATEST = Integer.MAX_VALUE;
    private static final Check check = new Check();

    public static void main(String[] args) {
        fallingProducts();
        hermite();
        twoSeries();
        ladderRefusals();
        aLadderStaysAsMade();
        stepAndAtRefusals();
        tell();
        lowers();
        lowersEveryStepBut();
        bound();
        binomial();
        binomialUpToSome();
        check.end("LaddersTest");
    }

    private static void steps(String name, DeltaLadders x, int k, int n, long... want) {
        for (int j = 0; j < 10; j++) {
            long number = j < want.length ? Math.floorMod(want[j], 10007L) : 0;
            check.due(name + " step " + n + ", " + j, x.step(k, n, j), number);
        }
    }

    /** Sheet 0 is 1, sheet 1 is t, sheet 2 is E to the t less 1; ladder 0 falls. */
    private static DeltaLadders falling() {
        DeltaLadders x = new DeltaLadders();
        x.kind(0, 7, 1);
        x.kind(1, 0, 0);
        x.kind(2, 2, 1);
        x.ladder(0, 0, 2);
        return x;
    }

    private static void fallingProducts() {
        DeltaLadders x = falling();
        steps("falling", x, 0, 0, 1);
        steps("falling", x, 0, 1, 0, 1);
        steps("falling", x, 0, 4, 0, -6, 11, -6, 1);
        steps("falling", x, 0, 9, 0, 40320, -109584, 118124, -67284, 22449, -4536, 546, -36, 1);
        for (int at : new int[] {0, 5, 8, 9, 12, -1, 10007, 10020, LEAST, GREATEST}) {
            long want = 1;
            for (int i = 0; i < 9; i++) {
                want = Math.floorMod(want * Math.floorMod((long) at - i, 10007L), 10007L);
            }
            check.due("falling at " + at, x.at(0, 9, at), want);
        }
        check.due("p 0 anywhere", x.at(0, 0, LEAST), 1);
    }

    /** g is E to the (t t by 2), f is t. */
    private static void hermite() {
        DeltaLadders x = new DeltaLadders();
        x.kind(0, 1, 1);
        Make.ints(x, 1, 0, 0, Make.by(1, 2));
        x.into(0, 1, 0);
        x.kind(1, 0, 0);
        check.due("ladder", x.ladder(3, 0, 1), 1);
        steps("hermite", x, 3, 2, -1, 0, 1);
        steps("hermite", x, 3, 5, 0, 15, 0, -10, 0, 1);
        steps("hermite", x, 3, 8, 105, 0, -420, 0, 210, 0, -28, 0, 1);
        check.due("lowered by D", x.lowers(3, 1), -1);
    }

    /** By its operators: f's on p n is n p (n - 1), and g's on p n is 0 at 0 after f's, but for p 0. */
    private static void twoSeries() {
        DeltaLadders x = new DeltaLadders();
        Make.ints(x, 0, 4, 1, 7, 0, 2, 9, 10006, 3, 8, 5);
        Make.ints(x, 1, 0, 3, 5, 10000, 2, 8, 1, 0, 77, 1234);
        check.due("ladder", x.ladder(2, 0, 1), 1);
        check.due("lowered by f", x.lowers(2, 1), -1);
        check.due("p 0 is 1 by 4", x.at(2, 0, 77), Make.by(1, 4));
        for (int n = 0; n < 10; n++) {
            x.tell(2, n, 5);
            x.apply(0, 5, 6);
            check.due("g on p " + n + " at 0", x.term(6, 0), n == 0 ? 1 : 0);
            check.due("degree is no more than " + n, n == 9 || x.step(2, n, n + 1) == 0);
            check.due("degree is " + n, x.step(2, n, n) != 0);
        }
    }

    private static void ladderRefusals() {
        DeltaLadders x = falling();
        Make.ints(x, 3, 10007, 1);
        Make.ints(x, 4, 1, 1);
        Make.ints(x, 5, 0, 10007, 1);
        long before = x.digest();
        for (int bad : new int[] {-1, 4, LEAST, GREATEST}) {
            check.refused("ladder k " + bad, x, before, x.ladder(bad, 0, 1), -2);
            check.refused("k before NULL " + bad, x, before, x.ladder(bad, 7, 7), -2);
        }
        for (int bad : new int[] {-1, 8, LEAST, GREATEST}) {
            check.refused("ladder g " + bad, x, before, x.ladder(0, bad, 1), -2);
            check.refused("ladder f " + bad, x, before, x.ladder(0, 7, bad), -2);
        }
        check.due("no finding", x.count(2), 0);
        check.refused("g LOST", x, before, x.ladder(0, 7, 4), -11);
        check.due("NULL", x.count(2), 1);
        x.sheet(7, 0, -1);
        check.refused("f LOST", x, before, x.ladder(0, 3, 7), -11);
        check.due("NULL", x.count(2), 1);
        check.refused("g's c 0 is 0", x, before, x.ladder(0, 3, 1), -3);
        check.refused("f's c 0 is not 0", x, before, x.ladder(0, 0, 4), -3);
        check.refused("f's c 1 is 0", x, before, x.ladder(0, 0, 5), -3);
        check.due("one ladder", x.count(1), 1);
    }

    private static void aLadderStaysAsMade() {
        DeltaLadders x = falling();
        x.kind(2, 5, 3);
        x.lose(0);
        steps("after its sheets went", x, 0, 3, 0, 2, -3, 1);
        x.kind(0, 7, 1);
        check.due("another in its place", x.ladder(0, 0, 1), 1);
        steps("in its place", x, 0, 3, 0, 0, 0, 1);
        check.due("one ladder", x.count(1), 1);
    }

    private static void stepAndAtRefusals() {
        DeltaLadders x = falling();
        long before = x.digest();
        for (int bad : new int[] {-1, 4, LEAST, GREATEST}) {
            check.refused("step k " + bad, x, before, x.step(bad, 0, 0), -2);
            check.refused("at k " + bad, x, before, x.at(bad, 0, 0), -2);
        }
        for (int bad : new int[] {-1, 10, LEAST, GREATEST}) {
            check.refused("step n " + bad, x, before, x.step(0, bad, 0), -2);
            check.refused("step j " + bad, x, before, x.step(0, 0, bad), -2);
            check.refused("step BAD before NOT " + bad, x, before, x.step(1, 0, bad), -2);
            check.refused("at n " + bad, x, before, x.at(0, bad, 0), -2);
            check.refused("at BAD before NOT " + bad, x, before, x.at(1, bad, 0), -2);
        }
        check.refused("step of none", x, before, x.step(1, 0, 0), -3);
        check.refused("at of none", x, before, x.at(1, 0, 0), -3);
        check.due("no finding", x.count(2), 0);
    }

    private static void tell() {
        DeltaLadders x = falling();
        check.due("tell", x.tell(0, 3, 7), 0);
        check.series("tell", x, 7, 0, 2, -3, 1);
        check.due("its c 9", x.tell(0, 9, 2), 1);
        check.series("onto f", x, 2, 0, 40320, -109584, 118124, -67284, 22449, -4536, 546, -36, 1);
        steps("and the ladder stays", x, 0, 2, 0, -1, 1);
        x.put(7, 2, 0, 5);
        steps("whatever the sheet becomes", x, 0, 3, 0, 2, -3, 1);
        long before = x.digest();
        check.refused("k -1", x, before, x.tell(-1, 0, 0), -2);
        check.refused("k 4", x, before, x.tell(4, 0, 0), -2);
        check.refused("n -1", x, before, x.tell(0, -1, 0), -2);
        check.refused("n 10", x, before, x.tell(0, 10, 0), -2);
        check.refused("u -1", x, before, x.tell(0, 0, -1), -2);
        check.refused("u 8", x, before, x.tell(0, 0, 8), -2);
        check.refused("BAD before NOT", x, before, x.tell(1, 0, 8), -2);
        check.refused("none", x, before, x.tell(1, 0, 0), -3);
    }

    private static void lowers() {
        DeltaLadders x = falling();
        check.due("the step's difference lowers", x.lowers(0, 2), -1);
        check.due("D lowers p 1, not p 2", x.lowers(0, 1), 2);
        check.due("1 lowers none", x.lowers(0, 0), 1);
        long before = x.digest();
        check.refused("k -1", x, before, x.lowers(-1, 1), -2);
        check.refused("k 4", x, before, x.lowers(4, 1), -2);
        check.refused("s -1", x, before, x.lowers(0, -1), -2);
        check.refused("s 8", x, before, x.lowers(0, 8), -2);
        check.refused("BAD before NULL", x, before, x.lowers(4, 7), -2);
        check.due("no finding", x.count(2), 0);
        check.refused("NULL before NOT", x, before, x.lowers(1, 7), -11);
        check.due("NULL", x.count(2), 1);
        check.refused("none", x, before, x.lowers(1, 1), -3);
    }

    /** Term n of the operator is first asked by p n. */
    private static void lowersEveryStepBut() {
        for (int n = 1; n < 10; n++) {
            DeltaLadders x = falling();
            x.put(2, 2, n, x.get(2, 2, n) + 1);
            check.due("an operator wrong in term " + n, x.lowers(0, 2), n);
        }
    }

    private static void bound() {
        DeltaLadders x = falling();
        x.ladder(1, 0, 1);
        int[] secondKind = {0, 1, 255, 3025, 7770, 6951, 2646, 462, 36, 1};
        for (int j = 0; j < 10; j++) {
            check.due("x to the 9 in falling ones, " + j, x.bound(1, 0, 9, j), secondKind[j]);
            check.due("falling ones in x to the j, " + j, x.bound(0, 1, 9, j), x.step(0, 9, j));
            check.due("in itself", x.bound(0, 0, 6, j), j == 6 ? 1 : 0);
        }
        for (int n = 0; n < 10; n++) {
            boundTogether(0, 2, n);
            boundTogether(2, 0, n);
        }
        long before = x.digest();
        check.refused("one -1", x, before, x.bound(-1, 0, 0, 0), -2);
        check.refused("one 4", x, before, x.bound(4, 0, 0, 0), -2);
        check.refused("other -1", x, before, x.bound(0, -1, 0, 0), -2);
        check.refused("other 4", x, before, x.bound(0, 4, 0, 0), -2);
        check.refused("n -1", x, before, x.bound(0, 1, -1, 0), -2);
        check.refused("n 10", x, before, x.bound(0, 1, 10, 0), -2);
        check.refused("j -1", x, before, x.bound(0, 1, 0, -1), -2);
        check.refused("j 10", x, before, x.bound(0, 1, 0, 10), -2);
        check.refused("BAD before NOT", x, before, x.bound(3, 3, 0, 10), -2);
        check.refused("one is none", x, before, x.bound(3, 0, 0, 0), -3);
        check.refused("other is none", x, before, x.bound(0, 3, 0, 0), -3);
    }

    private static void boundTogether(int one, int other, int n) {
        DeltaLadders x = falling();
        Make.ints(x, 4, 4, 1, 7, 0, 2, 9, 10006, 3, 8, 5);
        Make.ints(x, 5, 0, 3, 5, 10000, 2, 8, 1, 0, 77, 1234);
        x.ladder(2, 4, 5);
        for (int at = 0; at < 12; at++) {
            long total = 0;
            for (int j = 0; j < 10; j++) {
                total += (long) x.bound(one, other, n, j) * x.at(other, j, at);
            }
            check.due("bound " + n + " at " + at, x.at(one, n, at), total % 10007);
        }
    }

    private static void binomial() {
        DeltaLadders x = falling();
        check.due("falling ones", x.binomial(0), 9);
        x.ladder(1, 0, 1);
        check.due("powers", x.binomial(1), 9);
        Make.ints(x, 3, 0, 5, 4, 3, 2, 1, 9, 8, 7, 6);
        x.ladder(1, 0, 3);
        check.due("any f with g being 1", x.binomial(1), 9);
        x.kind(4, 7, 2);
        x.ladder(1, 4, 1);
        check.due("p 0 is not 1", x.binomial(1), -1);
        long before = x.digest();
        check.refused("k -1", x, before, x.binomial(-1), -2);
        check.refused("k 4", x, before, x.binomial(4), -2);
        check.refused("none", x, before, x.binomial(2), -3);
    }

    /** With t to the n in g first at n, p n is the first that is off. */
    private static void binomialUpToSome() {
        for (int n = 1; n < 10; n++) {
            DeltaLadders x = falling();
            x.power(0, 1, 3);
            x.put(3, 2, n, 1);
            x.ladder(1, 3, 2);
            check.due("1 and t to the " + n, x.binomial(1), n - 1);
        }
    }
}
