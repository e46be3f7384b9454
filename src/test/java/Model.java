import java.math.BigInteger;

/**
 * The document told a second time, slowly: rows are Java's own arrays whose exceptions are the
 * findings, and every series is reckoned straight from its definition.
 */
final class Model {
    static final long P = 10007;
    private final Object[] rows = new Object[8];
    private final long[][][] ladders = new long[4][][];
    private int finding = 0;

    // ---- numbers and series

    private static long mod(long v) {
        return Math.floorMod(v, P);
    }

    private static long by(long a, long b) {
        return mod(a * BigInteger.valueOf(b).modInverse(BigInteger.valueOf(P)).longValue());
    }

    private static long[] constant(long a) {
        long[] c = new long[10];
        c[0] = a;
        return c;
    }

    private static long[] times(long[] s, long[] t) {
        long[] c = new long[10];
        for (int i = 0; i < 10; i++) {
            for (int j = 0; i + j < 10; j++) {
                c[i + j] = mod(c[i + j] + s[i] * t[j]);
            }
        }
        return c;
    }

    private static long[] raised(long[] s, int n) {
        long[] c = constant(1);
        for (int i = 0; i < n; i++) {
            c = times(c, s);
        }
        return c;
    }

    private static long[] quotient(long[] s, long[] t) {
        long[] q = new long[10];
        for (int n = 0; n < 10; n++) {
            q[n] = by(mod(s[n] - times(q, t)[n]), t[0]);
        }
        return q;
    }

    private static long[] putInto(long[] s, long[] t) {
        long[] c = new long[10];
        for (int k = 0; k < 10; k++) {
            long[] part = raised(t, k);
            for (int i = 0; i < 10; i++) {
                c[i] = mod(c[i] + s[k] * part[i]);
            }
        }
        return c;
    }

    private static long[] turned(long[] f) {
        long[] g = new long[10];
        for (int n = 1; n < 10; n++) {
            g[n] = by(mod((n == 1 ? 1 : 0) - putInto(f, g)[n]), f[1]);
        }
        return g;
    }

    private static long[] changed(long[] p) {
        long[] c = new long[10];
        for (int i = 1; i < 10; i++) {
            c[i - 1] = mod(i * p[i]);
        }
        return c;
    }

    private static long[] operated(long[] operator, long[] p) {
        long[] c = new long[10];
        long[] change = p;
        for (int j = 0; j < 10; j++) {
            for (int i = 0; i < 10; i++) {
                c[i] = mod(c[i] + operator[j] * change[i]);
            }
            change = changed(change);
        }
        return c;
    }

    private static long at(long[] p, long x) {
        long total = 0;
        long power = 1;
        for (long c : p) {
            total = mod(total + c * power);
            power = mod(power * mod(x));
        }
        return total;
    }

    private static long factorial(int n) {
        return n == 0 ? 1 : n * factorial(n - 1);
    }

    private static long choose(int n, int k) {
        return factorial(n) / factorial(k) / factorial(n - k);
    }

    private static boolean canTurn(long[] f) {
        return f[0] == 0 && f[1] != 0;
    }

    private static boolean outside(int v, int least, int most) {
        return v < least || v > most;
    }

    private static boolean noSheets(int... sheets) {
        for (int s : sheets) {
            if (outside(s, 0, 7)) {
                return true;
            }
        }
        return false;
    }

    // ---- sheets

    private int found(RuntimeException e) {
        finding = e instanceof NullPointerException ? 1
            : e instanceof IndexOutOfBoundsException ? 2
            : e instanceof ClassCastException ? 3
            : e instanceof ArrayStoreException ? 4
            : e instanceof NegativeArraySizeException ? 5 : -1;
        return -10 - finding;
    }

    private boolean anyLost(int... sheets) {
        for (int s : sheets) {
            if (rows[s] == null) {
                finding = 1;
                return true;
            }
        }
        return false;
    }

    int sheet(int s, int form, int n) {
        if (noSheets(s) || outside(form, 0, 2) || n > 20) {
            return -2;
        }
        try {
            rows[s] = form == 0 ? new byte[n] : form == 1 ? new short[n] : new int[n];
            return n;
        } catch (NegativeArraySizeException e) {
            return found(e);
        }
    }

    int lose(int s) {
        if (noSheets(s)) {
            return -2;
        }
        try {
            int n = java.lang.reflect.Array.getLength(rows[s]);
            rows[s] = null;
            return n;
        } catch (NullPointerException e) {
            return found(e);
        }
    }

    int put(int s, int form, int i, int v) {
        if (noSheets(s) || outside(form, 0, 2)) {
            return -2;
        }
        try {
            if (form == 0) {
                ((byte[]) rows[s])[i] = (byte) v;
            } else if (form == 1) {
                ((short[]) rows[s])[i] = (short) v;
            } else {
                ((int[]) rows[s])[i] = v;
            }
            return 1;
        } catch (RuntimeException e) {
            return found(e);
        }
    }

    int get(int s, int form, int i) {
        if (noSheets(s) || outside(form, 0, 2)) {
            return Integer.MIN_VALUE;
        }
        try {
            return form == 0 ? ((byte[]) rows[s])[i] : form == 1 ? ((short[]) rows[s])[i] : ((int[]) rows[s])[i];
        } catch (RuntimeException e) {
            found(e);
            return Integer.MIN_VALUE;
        }
    }

    int copy(int s, int i, int t, int j, int n) {
        if (noSheets(s, t)) {
            return -2;
        }
        try {
            System.arraycopy(rows[s], i, rows[t], j, n);
            return 1;
        } catch (RuntimeException e) {
            return found(e);
        }
    }

    private long[] told(int s) {
        long[] c = new long[10];
        for (int i = 0; i < 10 && i < java.lang.reflect.Array.getLength(rows[s]); i++) {
            c[i] = mod(java.lang.reflect.Array.getLong(rows[s], i));
        }
        return c;
    }

    private int comes(int u, long[] c) {
        int[] row = new int[10];
        for (int i = 0; i < 10; i++) {
            row[i] = (int) c[i];
        }
        rows[u] = row;
        return row[9];
    }

    // ---- series

    int term(int s, int i) {
        if (noSheets(s) || outside(i, 0, 9)) {
            return -2;
        }
        return anyLost(s) ? -11 : (int) told(s)[i];
    }

    int kind(int s, int kind, int a) {
        if (noSheets(s) || outside(kind, 0, 7) || outside(a, 0, 10006)) {
            return -2;
        }
        long[] t = new long[10];
        t[1] = 1;
        long[] at = times(constant(a), t);
        long[] oneAndAt = at.clone();
        oneAndAt[0] = 1;
        long[] oneLessAt = times(constant(P - 1), at);
        oneLessAt[0] = 1;
        long[] exponential = new long[10];
        long[] logarithm = new long[10];
        for (int n = 0; n < 10; n++) {
            exponential[n] = by(1, factorial(n));
            logarithm[n] = n == 0 ? 0 : by(n % 2 == 1 ? 1 : P - 1, n);
        }
        long[] less = exponential.clone();
        less[0] = 0;
        return comes(s, switch (kind) {
            case 0 -> t;
            case 1 -> putInto(exponential, at);
            case 2 -> putInto(less, at);
            case 3 -> quotient(constant(1), oneLessAt);
            case 4 -> times(t, putInto(exponential, at));
            case 5 -> putInto(logarithm, at);
            case 6 -> quotient(t, oneAndAt);
            default -> constant(a);
        });
    }

    int join(int s, int t, int u, int what) {
        if (noSheets(s, t, u) || outside(what, 0, 2)) {
            return -2;
        }
        if (anyLost(s, t)) {
            return -11;
        }
        long[] a = told(s);
        long[] b = told(t);
        if (what == 2) {
            return comes(u, times(a, b));
        }
        for (int i = 0; i < 10; i++) {
            a[i] = mod(what == 0 ? a[i] + b[i] : a[i] - b[i]);
        }
        return comes(u, a);
    }

    int over(int s, int t, int u) {
        if (noSheets(s, t, u)) {
            return -2;
        }
        if (anyLost(s, t)) {
            return -11;
        }
        return told(t)[0] == 0 ? -3 : comes(u, quotient(told(s), told(t)));
    }

    int into(int s, int t, int u) {
        if (noSheets(s, t, u)) {
            return -2;
        }
        if (anyLost(s, t)) {
            return -11;
        }
        return told(t)[0] != 0 ? -3 : comes(u, putInto(told(s), told(t)));
    }

    int turn(int s, int u) {
        if (noSheets(s, u)) {
            return -2;
        }
        if (anyLost(s)) {
            return -11;
        }
        return canTurn(told(s)) ? comes(u, turned(told(s))) : -3;
    }

    int power(int s, int n, int u) {
        if (noSheets(s, u) || outside(n, 0, 1000)) {
            return -2;
        }
        return anyLost(s) ? -11 : comes(u, raised(told(s), n));
    }

    int value(int s, int x) {
        if (noSheets(s)) {
            return -2;
        }
        return anyLost(s) ? -11 : (int) at(told(s), x);
    }

    int apply(int s, int t, int u) {
        if (noSheets(s, t, u)) {
            return -2;
        }
        return anyLost(s, t) ? -11 : comes(u, operated(told(s), told(t)));
    }

    // ---- ladders

    private boolean noPlaces(int n, int j) {
        return outside(n, 0, 9) || outside(j, 0, 9);
    }

    int ladder(int k, int g, int f) {
        if (outside(k, 0, 3) || noSheets(g, f)) {
            return -2;
        }
        if (anyLost(g, f)) {
            return -11;
        }
        if (told(g)[0] == 0 || !canTurn(told(f))) {
            return -3;
        }
        long[] inverse = turned(told(f));
        long[] start = quotient(constant(1), putInto(told(g), inverse));
        ladders[k] = new long[10][10];
        for (int n = 0; n < 10; n++) {
            for (int j = 0; j <= n; j++) {
                ladders[k][n][j] = mod(factorial(n) / factorial(j) * times(start, raised(inverse, j))[n]);
            }
        }
        return 1;
    }

    int step(int k, int n, int j) {
        if (outside(k, 0, 3) || noPlaces(n, j)) {
            return -2;
        }
        return ladders[k] == null ? -3 : (int) ladders[k][n][j];
    }

    int at(int k, int n, int x) {
        if (outside(k, 0, 3) || noPlaces(n, 0)) {
            return -2;
        }
        return ladders[k] == null ? -3 : (int) at(ladders[k][n], x);
    }

    int tell(int k, int n, int u) {
        if (outside(k, 0, 3) || noPlaces(n, 0) || noSheets(u)) {
            return -2;
        }
        return ladders[k] == null ? -3 : comes(u, ladders[k][n]);
    }

    int lowers(int k, int s) {
        if (outside(k, 0, 3) || noSheets(s)) {
            return -2;
        }
        if (anyLost(s)) {
            return -11;
        }
        if (ladders[k] == null) {
            return -3;
        }
        for (int n = 1; n < 10; n++) {
            long[] due = times(constant(n), ladders[k][n - 1]);
            if (!java.util.Arrays.equals(due, operated(told(s), ladders[k][n]))) {
                return n;
            }
        }
        return -1;
    }

    /** The other LADDER's table turned about by elimination, row n of the one times it. */
    int bound(int one, int other, int n, int j) {
        if (outside(one, 0, 3) || outside(other, 0, 3) || noPlaces(n, j)) {
            return -2;
        }
        if (ladders[one] == null || ladders[other] == null) {
            return -3;
        }
        long[][] table = new long[10][20];
        for (int r = 0; r < 10; r++) {
            System.arraycopy(ladders[other][r], 0, table[r], 0, 10);
            table[r][10 + r] = 1;
        }
        for (int c = 0; c < 10; c++) {
            long lead = table[c][c];
            for (int i = 0; i < 20; i++) {
                table[c][i] = by(table[c][i], lead);
            }
            for (int r = 0; r < 10; r++) {
                long many = table[r][c];
                for (int i = 0; r != c && i < 20; i++) {
                    table[r][i] = mod(table[r][i] - many * table[c][i]);
                }
            }
        }
        long total = 0;
        for (int i = 0; i < 10; i++) {
            total = mod(total + ladders[one][n][i] * table[i][10 + j]);
        }
        return (int) total;
    }

    int binomial(int k) {
        if (outside(k, 0, 3)) {
            return -2;
        }
        if (ladders[k] == null) {
            return -3;
        }
        for (int m = 0; m < 10; m++) {
            for (int x = 0; x <= m; x++) {
                for (int y = 0; y <= m; y++) {
                    long total = 0;
                    for (int i = 0; i <= m; i++) {
                        total = mod(total + mod(choose(m, i) * at(ladders[k][i], x)) * at(ladders[k][m - i], y));
                    }
                    if (total != at(ladders[k][m], x + y)) {
                        return m - 1;
                    }
                }
            }
        }
        return 9;
    }

    // ---- sums

    /** All values one by one; 10007 of them in a row make 0, as the degree is below 10006. */
    int sum(int s, int a, int many) {
        if (noSheets(s) || outside(many, 0, 2000000000)) {
            return -2;
        }
        if (anyLost(s)) {
            return -11;
        }
        long total = 0;
        for (int i = 0; i < many % P; i++) {
            total = mod(total + at(told(s), (long) a + i));
        }
        return (int) total;
    }

    int through(int s, int n, int u) {
        if (noSheets(s, u) || outside(n, 1, 10)) {
            return -2;
        }
        if (anyLost(s)) {
            return -11;
        }
        long[] total = new long[10];
        for (int i = 0; i < n; i++) {
            long[] part = constant(told(s)[i]);
            for (int j = 0; j < n; j++) {
                if (j != i) {
                    long[] factor = new long[10];
                    factor[0] = by(mod(-j), mod(i - j));
                    factor[1] = by(1, mod(i - j));
                    part = times(part, factor);
                }
            }
            for (int j = 0; j < 10; j++) {
                total[j] = mod(total[j] + part[j]);
            }
        }
        comes(u, total);
        int degree = 0;
        for (int j = 0; j < 10; j++) {
            degree = total[j] != 0 ? j : degree;
        }
        return degree;
    }

    int difference(int s, int k, int a) {
        if (noSheets(s) || outside(k, 0, 9)) {
            return -2;
        }
        if (anyLost(s)) {
            return -11;
        }
        long total = 0;
        for (int i = 0; i <= k; i++) {
            total = mod(total + ((k - i) % 2 == 0 ? 1 : -1) * choose(k, i) * at(told(s), (long) a + i));
        }
        return (int) total;
    }

    // ---- triangles

    int triangle(int g, int f, int n, int k) {
        if (noSheets(g, f) || noPlaces(n, k)) {
            return -2;
        }
        if (anyLost(g, f)) {
            return -11;
        }
        return told(f)[0] != 0 ? -3 : (int) times(told(g), raised(told(f), k))[n];
    }

    int product(int g, int f, int h, int l, int u, int v) {
        if (noSheets(g, f, h, l, u, v) || u == v) {
            return -2;
        }
        if (anyLost(g, f, h, l)) {
            return -11;
        }
        if (told(f)[0] != 0 || told(l)[0] != 0) {
            return -3;
        }
        long[] a = times(told(g), putInto(told(h), told(f)));
        long[] b = putInto(told(l), told(f));
        comes(u, a);
        comes(v, b);
        return 1;
    }

    int back(int g, int f, int u, int v) {
        if (noSheets(g, f, u, v) || u == v) {
            return -2;
        }
        if (anyLost(g, f)) {
            return -11;
        }
        if (told(g)[0] == 0 || !canTurn(told(f))) {
            return -3;
        }
        long[] inverse = turned(told(f));
        long[] a = quotient(constant(1), putInto(told(g), inverse));
        comes(u, a);
        comes(v, inverse);
        return 1;
    }

    int aRow(int f, int u) {
        if (noSheets(f, u)) {
            return -2;
        }
        if (anyLost(f)) {
            return -11;
        }
        if (!canTurn(told(f))) {
            return -3;
        }
        long[] inverse = turned(told(f));
        long[] down = new long[10];
        System.arraycopy(inverse, 1, down, 0, 9);
        long[] row = quotient(constant(1), down);
        row[9] = 0;
        comes(u, row);
        return (int) row[0];
    }

    int count(int what) {
        int sheets = 0;
        for (Object row : rows) {
            sheets += row == null ? 0 : 1;
        }
        int standing = 0;
        for (long[][] ladder : ladders) {
            standing += ladder == null ? 0 : 1;
        }
        return what == 0 ? sheets : what == 1 ? standing : what == 2 ? finding : -2;
    }

    long digest() {
        long h = (17 * 31 + count(0)) * 31L + count(1);
        for (int s = 0; s < 8; s++) {
            if (rows[s] != null) {
                h = 31 * h + s;
                for (long c : told(s)) {
                    h = 31 * h + c;
                }
            }
        }
        for (int k = 0; k < 4; k++) {
            if (ladders[k] != null) {
                h = 31 * h + k;
                for (long c : ladders[k][9]) {
                    h = 31 * h + c;
                }
            }
        }
        return h;
    }
}
