import java.math.BigInteger;

/** Promises 7 to 15: term, kind, join, over, into, turn, power, value, apply. */
public final class SeriesTest {
    private static final int LEAST = Integer.MIN_VALUE, GREATEST = Integer.MAX_VALUE;
    private static final int[] FACTORIALS = {1, 1, 2, 6, 24, 120, 720, 5040, 40320, 362880};
    private static final Check check = new Check();

    public static void main(String[] args) {
        term();
        kind();
        kindOutside();
        join();
        over();
        into();
        turn();
        power();
        value();
        apply();
        comesAsANewRow();
        check.end("SeriesTest");
    }

    private static void term() {
        DeltaLadders x = new DeltaLadders();
        x.sheet(0, 0, 2);
        x.put(0, 0, 0, -128);
        check.series("bytes", x, 0, -128, 0);
        x.sheet(0, 1, 1);
        x.put(0, 1, 0, 32767);
        check.series("shorts", x, 0, 32767);
        Make.ints(x, 0, LEAST, GREATEST, 10007, 10006, -10007, -1, 0, 0, 0, 9, 8, 7);
        check.series("ints", x, 0, LEAST, GREATEST, 0, 10006, 0, 10006, 0, 0, 0, 9);
        x.sheet(0, 2, 0);
        check.series("an empty one", x, 0);
        long before = x.digest();
        check.refused("term -1", x, before, x.term(0, -1), -2);
        check.refused("term 10", x, before, x.term(0, 10), -2);
        check.refused("sheet -1", x, before, x.term(-1, 0), -2);
        check.refused("sheet 8", x, before, x.term(8, 0), -2);
        check.refused("BAD before NULL", x, before, x.term(1, 10), -2);
        check.due("no finding", x.count(2), 0);
        check.refused("LOST", x, before, x.term(1, 0), -11);
        check.due("NULL", x.count(2), 1);
    }

    private static void kind() {
        for (int a : new int[] {0, 1, 2, 3, 5003, 10006}) {
            DeltaLadders x = new DeltaLadders();
            long[][] want = new long[8][10];
            long raised = 1;
            for (int n = 0; n < 10; n++) {
                want[1][n] = Make.by(raised, FACTORIALS[n]);
                want[2][n] = n == 0 ? 0 : want[1][n];
                want[3][n] = raised;
                if (n > 0) {
                    want[5][n] = (n % 2 == 1 ? 1 : -1) * Make.by(raised, n);
                    want[4][n] = want[1][n - 1];
                    want[6][n] = (n % 2 == 1 ? 1 : -1) * want[3][n - 1];
                }
                raised = raised * a % 10007;
            }
            want[0][1] = 1;
            want[7][0] = a;
            for (int kind = 0; kind < 8; kind++) {
                String call = "kind(0, " + kind + ", " + a + ")";
                check.due(call, x.kind(0, kind, a), Math.floorMod(want[kind][9], 10007L));
                check.series(call, x, 0, want[kind]);
            }
        }
    }

    private static void kindOutside() {
        DeltaLadders x = new DeltaLadders();
        x.kind(0, 7, 10006);
        long before = x.digest();
        check.refused("sheet -1", x, before, x.kind(-1, 0, 0), -2);
        check.refused("sheet 8", x, before, x.kind(8, 0, 0), -2);
        check.refused("kind -1", x, before, x.kind(0, -1, 0), -2);
        check.refused("kind 8", x, before, x.kind(0, 8, 0), -2);
        check.refused("a -1", x, before, x.kind(0, 7, -1), -2);
        check.refused("a 10007", x, before, x.kind(0, 7, 10007), -2);
        check.due("a LOST sheet becomes it", x.kind(5, 7, 10006), 0);
        check.series("there it is", x, 5, 10006);
    }

    private static void join() {
        DeltaLadders x = new DeltaLadders();
        Make.ints(x, 0, 1, 2, 0, 10006, 0, 0, 0, 0, 0, 3);
        Make.ints(x, 1, 10006, 5, 7, 10006, 0, 0, 0, 0, 1, 4);
        check.due("together", x.join(0, 1, 2, 0), 7);
        check.series("together", x, 2, 0, 7, 7, -2, 0, 0, 0, 0, 1, 7);
        check.due("less", x.join(0, 1, 2, 1), 10006);
        check.series("less", x, 2, 2, -3, -7, 0, 0, 0, 0, 0, -1, -1);
        check.due("times", x.join(0, 1, 2, 2), 3);
        check.series("times", x, 2, -1, 3, 17, 14, -7, -7, 1, 0, 1, 3);
        check.due("onto s", x.join(0, 1, 0, 2), 3);
        check.series("onto s", x, 0, -1, 3, 17, 14, -7, -7, 1, 0, 1, 3);
        check.due("s with s to s", x.join(1, 1, 1, 0), 8);
        check.series("s with s to s", x, 1, -2, 10, 14, -2, 0, 0, 0, 0, 2, 8);
        Make.ints(x, 3, 10006, 10006, 10006, 10006, 10006, 10006, 10006, 10006, 10006, 10006);
        check.due("greatest terms", x.join(3, 3, 4, 2), 10);
        check.series("greatest terms", x, 4, 1, 2, 3, 4, 5, 6, 7, 8, 9, 10);
        refusals3("join", (y, s, t, u) -> y.join(s, t, u, 0));
        long before = x.digest();
        check.refused("what -1", x, before, x.join(0, 1, 2, -1), -2);
        check.refused("what 3", x, before, x.join(0, 1, 2, 3), -2);
        check.refused("what before NULL", x, before, x.join(7, 7, 2, 3), -2);
    }

    private static void over() {
        DeltaLadders x = new DeltaLadders();
        Make.ints(x, 0, 1);
        Make.ints(x, 1, 1, -1, -1);
        check.due("over", x.over(0, 1, 2), 55);
        check.series("over", x, 2, 1, 1, 2, 3, 5, 8, 13, 21, 34, 55);
        Make.ints(x, 3, 4, 8);
        Make.ints(x, 4, 2);
        check.due("by a number", x.over(3, 4, 4), 0);
        check.series("by a number, onto t", x, 4, 2, 4);
        check.due("by itself", x.over(3, 3, 3), 0);
        check.series("by itself", x, 3, 1);
        refusals3("over", DeltaLadders::over);
        Make.ints(x, 5, 0, 1);
        long before = x.digest();
        check.refused("c 0 is 0", x, before, x.over(0, 5, 6), -3);
        Make.ints(x, 5, 10007, 1);
        before = x.digest();
        check.refused("c 0 is 10007", x, before, x.over(0, 5, 6), -3);
        check.refused("NULL before NOT", x, before, x.over(7, 5, 6), -11);
    }

    private static void into() {
        DeltaLadders x = new DeltaLadders();
        x.kind(0, 1, 1);
        x.kind(1, 5, 3);
        check.due("E to the LOG of (1 and 3 t)", x.into(0, 1, 2), 0);
        check.series("E to the LOG of (1 and 3 t)", x, 2, 1, 3);
        Make.ints(x, 3, 7, 1, 1);
        Make.ints(x, 4, 0, 0, 0, 1, 0, 1);
        check.due("into", x.into(3, 4, 5), 0);
        check.series("into", x, 5, 7, 0, 0, 1, 0, 1, 1, 0, 2, 0);
        Make.ints(x, 3, 0, 1, 1);
        check.due("s into s", x.into(3, 3, 3), 0);
        check.series("s into s", x, 3, 0, 1, 2, 2, 1);
        Make.ints(x, 4, 0);
        check.due("with 0 for t", x.into(0, 4, 5), 0);
        check.series("with 0 for t", x, 5, 1);
        refusals3("into", DeltaLadders::into);
        long before = x.digest();
        check.refused("t's c 0 is not 0", x, before, x.into(3, 0, 6), -3);
        check.refused("NULL before NOT", x, before, x.into(7, 0, 6), -11);
    }

    private static void turn() {
        DeltaLadders x = new DeltaLadders();
        Make.ints(x, 0, 0, 1, -1);
        check.due("turn", x.turn(0, 1), 1430);
        check.series("turn", x, 1, 0, 1, 1, 2, 5, 14, 42, 132, 429, 1430);
        check.due("turned onto itself", x.turn(1, 1), 0);
        check.series("turned onto itself", x, 1, 0, 1, -1);
        Make.ints(x, 2, 0, 2, 3, 5, 7, 11, 13, 17, 19, 23);
        x.turn(2, 3);
        x.into(2, 3, 4);
        check.series("f INTO g", x, 4, 0, 1);
        x.into(3, 2, 4);
        check.series("g INTO f", x, 4, 0, 1);
        refusals2("turn", DeltaLadders::turn);
        Make.ints(x, 0, 1, 1);
        Make.ints(x, 1, 0, 0, 1);
        Make.ints(x, 2, 0, 10007, 1);
        long before = x.digest();
        check.refused("c 0 is not 0", x, before, x.turn(0, 5), -3);
        check.refused("c 1 is 0", x, before, x.turn(1, 5), -3);
        check.refused("c 1 is 10007", x, before, x.turn(2, 5), -3);
    }

    private static void power() {
        DeltaLadders x = new DeltaLadders();
        Make.ints(x, 0, 1, 1);
        check.due("to the 9", x.power(0, 9, 1), 1);
        check.series("to the 9", x, 1, 1, 9, 36, 84, 126, 126, 84, 36, 9, 1);
        long[] choices = new long[10];
        BigInteger choice = BigInteger.ONE;
        for (int k = 0; k < 10; k++) {
            choices[k] = choice.mod(BigInteger.valueOf(10007)).longValue();
            choice = choice.multiply(BigInteger.valueOf(1000 - k)).divide(BigInteger.valueOf(k + 1));
        }
        check.due("to the 1000", x.power(0, 1000, 1), choices[9]);
        check.series("to the 1000", x, 1, choices);
        Make.ints(x, 2, 0, 3);
        check.due("0 and 3 t, to the 9", x.power(2, 9, 3), Math.floorMod(19683, 10007));
        check.due("to the 10, all cut away", x.power(2, 10, 3), 0);
        check.series("to the 10", x, 3);
        x.power(2, 1, 2);
        check.series("to the 1, onto itself", x, 2, 0, 3);
        Make.ints(x, 2);
        x.power(2, 0, 2);
        check.series("0 to the 0", x, 2, 1);
        refusals2("power", (y, s, u) -> y.power(s, 3, u));
        long before = x.digest();
        check.refused("n -1", x, before, x.power(0, -1, 1), -2);
        check.refused("n 1001", x, before, x.power(0, 1001, 1), -2);
        check.refused("BAD before NULL", x, before, x.power(7, 1001, 1), -2);
    }

    private static void value() {
        DeltaLadders x = new DeltaLadders();
        Make.ints(x, 0, 3, -2, 0, 1);
        for (int at : new int[] {0, 1, 2, -1, -7, 10006, 10007, 10009, LEAST, GREATEST}) {
            long m = Math.floorMod(at, 10007);
            check.due("value at " + at, x.value(0, at), Math.floorMod(3 - 2 * m + m * m * m, 10007L));
        }
        Make.ints(x, 1, 0, 0, 0, 0, 0, 0, 0, 0, 0, 1, 1);
        check.due("x to the 9 and no more", x.value(1, 2), 512);
        long before = x.digest();
        check.refused("sheet -1", x, before, x.value(-1, 0), -2);
        check.refused("sheet 8", x, before, x.value(8, 0), -2);
        check.refused("LOST", x, before, x.value(2, 0), -11);
        check.due("NULL", x.count(2), 1);
    }

    private static void apply() {
        DeltaLadders x = new DeltaLadders();
        Make.ints(x, 0, 5, 4, 3, 2, 1);
        x.kind(1, 0, 0);
        check.due("D", x.apply(1, 0, 2), 0);
        check.series("D", x, 2, 4, 6, 6, 4);
        Make.ints(x, 1, 2, 0, 1);
        x.apply(1, 0, 2);
        check.series("2 and D D", x, 2, 10 + 6, 8 + 12, 6 + 12, 4, 2);
        x.kind(1, 2, 1);
        x.apply(1, 0, 2);
        for (int at = 0; at < 6; at++) {
            check.due("the step's difference at " + at, x.value(2, at), x.difference(0, 1, at));
        }
        Make.ints(x, 3, 0, 0, 0, 0, 0, 0, 0, 0, 0, 1);
        Make.ints(x, 4, 0, 0, 0, 0, 0, 0, 0, 0, 0, 1);
        x.apply(3, 4, 5);
        check.series("the ninth change", x, 5, 362880);
        Make.ints(x, 3, 7);
        check.due("its c 9", x.apply(3, 4, 4), 7);
        Make.ints(x, 3, 0, 1, 1);
        x.apply(3, 3, 3);
        check.series("s on s to s", x, 3, 1 + 2, 2);
        refusals3("apply", DeltaLadders::apply);
    }

    /** FORM 2 with 10 items, whatever the SHEET was. */
    private static void comesAsANewRow() {
        DeltaLadders x = new DeltaLadders();
        x.kind(0, 0, 0);
        x.kind(1, 7, 1);
        x.ladder(0, 1, 0);
        for (int call = 0; call < 13; call++) {
            x.sheet(6, 0, 20);
            x.sheet(7, 1, 3);
            comeTo6(x, call);
            check.due("call " + call + " makes ints", x.get(6, 2, 9) >= 0);
            check.due("ten of them", x.get(6, 2, 10), LEAST);
            check.due("INDEX", x.count(2), 2);
            if (call == 11 || call == 12) {
                check.due("v too", x.get(7, 2, 9) >= 0);
            } else {
                check.due("nothing else", x.lose(7), 3);
            }
        }
    }

    private static void comeTo6(DeltaLadders x, int call) {
        switch (call) {
            case 0 -> x.kind(6, 3, 1);
            case 1 -> x.join(0, 1, 6, 0);
            case 2 -> x.over(0, 1, 6);
            case 3 -> x.into(1, 0, 6);
            case 4 -> x.turn(0, 6);
            case 5 -> x.power(0, 2, 6);
            case 6 -> x.apply(0, 1, 6);
            case 7 -> x.tell(0, 3, 6);
            case 8 -> x.through(0, 3, 6);
            case 9 -> x.aRow(0, 6);
            case 10 -> x.turn(6, x.kind(6, 0, 0) + 6);
            case 11 -> x.product(1, 0, 1, 0, 6, 7);
            default -> x.back(1, 0, 6, 7);
        }
    }

    private interface Call2 {
        int ask(DeltaLadders x, int s, int u);
    }

    private interface Call3 {
        int ask(DeltaLadders x, int s, int t, int u);
    }

    private static void refusals2(String name, Call2 call) {
        DeltaLadders x = new DeltaLadders();
        x.kind(0, 0, 0);
        long before = x.digest();
        for (int bad : new int[] {-1, 8, LEAST, GREATEST}) {
            check.refused(name + " s " + bad, x, before, call.ask(x, bad, 2), -2);
            check.refused(name + " u " + bad, x, before, call.ask(x, 0, bad), -2);
            check.refused(name + " u before NULL " + bad, x, before, call.ask(x, 7, bad), -2);
        }
        check.due("no finding", x.count(2), 0);
        check.refused(name + " s LOST", x, before, call.ask(x, 7, 0), -11);
        check.due("NULL", x.count(2), 1);
        check.due(name + " to a LOST one", call.ask(x, 0, 2), 0);
        check.due("is there", x.count(0), 2);
    }

    private static void refusals3(String name, Call3 call) {
        DeltaLadders x = new DeltaLadders();
        x.kind(0, 7, 1);
        long before = x.digest();
        for (int bad : new int[] {-1, 8, LEAST, GREATEST}) {
            check.refused(name + " s " + bad, x, before, call.ask(x, bad, 0, 2), -2);
            check.refused(name + " t " + bad, x, before, call.ask(x, 0, bad, 2), -2);
            check.refused(name + " u " + bad, x, before, call.ask(x, 0, 0, bad), -2);
            check.refused(name + " u before NULL " + bad, x, before, call.ask(x, 7, 7, bad), -2);
        }
        check.due("no finding", x.count(2), 0);
        check.refused(name + " s LOST", x, before, call.ask(x, 7, 0, 0), -11);
        check.due("NULL", x.count(2), 1);
        x.sheet(5, 0, -1);
        check.refused(name + " t LOST", x, before, call.ask(x, 0, 7, 0), -11);
        check.due("NULL", x.count(2), 1);
    }
}
