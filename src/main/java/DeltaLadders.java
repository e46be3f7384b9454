import java.util.Arrays;

/** Ladders of polynomials over the numbers modulo 10007, as ../shared/DOC.md promises them. */
public final class DeltaLadders {
    public static final int NONE = -1, BAD = -2, NOT = -3;

    private static final int PRIME = 10007;
    private static final int EXPONENT_BITS = 14;
    private static final int TERMS = 10;
    private static final int TOP = TERMS - 1;
    private static final int SHEETS = 8;
    private static final int LADDERS = 4;
    private static final int FORMS = 3;
    private static final int BYTES = 0, SHORTS = 1, INTS = 2;
    private static final int MOST_ITEMS = 20;
    private static final int KINDS = 8;
    private static final int TOGETHER = 0, LESS = 1, TIMES = 2;
    private static final int MOST_POWER = 1000;
    private static final int POWER_BITS = 10;
    private static final int MOST_SUMMED = 2000000000;
    private static final int NULL = 1, INDEX = 2, CAST = 3, STORE = 4, SIZE = 5;
    private static final int LEAST_INT = -2147483648;

    private final Sheet[] sheets = new Sheet[SHEETS];
    private final Ladder[] ladders = new Ladder[LADDERS];
    private final Algebra algebra = new Algebra();
    // Calls reckon on these copies, so that a SHEET may be both asked and answered to.
    private final Series first = new Series();
    private final Series second = new Series();
    private final Series third = new Series();
    private final Series fourth = new Series();
    private final Series result = new Series();
    private final Series otherResult = new Series();
    private int latestFinding = 0;

    public DeltaLadders() {
        for (int s = 0; s < SHEETS; s++) {
            sheets[s] = new Sheet();
        }
        for (int k = 0; k < LADDERS; k++) {
            ladders[k] = new Ladder();
        }
    }

    // ---- sheets

    public int sheet(int s, int form, int n) {
        if (!isSheet(s) || !isForm(form) || n > MOST_ITEMS) {
            return BAD;
        }
        if (n < 0) {
            return found(SIZE);
        }
        sheets[s].renew(form, n);
        return n;
    }

    public int lose(int s) {
        if (!isSheet(s)) {
            return BAD;
        }
        if (sheets[s].lost) {
            return found(NULL);
        }
        sheets[s].lost = true;
        return sheets[s].size;
    }

    public int put(int s, int form, int i, int v) {
        if (!isSheet(s) || !isForm(form)) {
            return BAD;
        }
        int finding = sheets[s].findingAt(form, i);
        if (finding != 0) {
            return found(finding);
        }
        sheets[s].items[i] = narrowed(form, v);
        return 1;
    }

    public int get(int s, int form, int i) {
        if (!isSheet(s) || !isForm(form)) {
            return LEAST_INT;
        }
        int finding = sheets[s].findingAt(form, i);
        if (finding != 0) {
            found(finding);
            return LEAST_INT;
        }
        return sheets[s].items[i];
    }

    public int copy(int s, int i, int t, int j, int n) {
        if (!isSheet(s) || !isSheet(t)) {
            return BAD;
        }
        if (sheets[s].lost || sheets[t].lost) {
            return found(NULL);
        }
        if (sheets[s].form != sheets[t].form) {
            return found(STORE);
        }
        if (!sheets[s].hasStretch(i, n) || !sheets[t].hasStretch(j, n)) {
            return found(INDEX);
        }
        System.arraycopy(sheets[s].items, i, sheets[t].items, j, n);
        return 1;
    }

    // ---- series

    public int term(int s, int i) {
        if (!isSheet(s) || !isPlace(i)) {
            return BAD;
        }
        if (sheets[s].lost) {
            return found(NULL);
        }
        return sheets[s].number(i);
    }

    public int kind(int s, int kind, int a) {
        if (!isSheet(s) || kind < 0 || kind >= KINDS || a < 0 || a >= PRIME) {
            return BAD;
        }
        algebra.ofKind(kind, a, result);
        return becomes(s, result);
    }

    public int join(int s, int t, int u, int what) {
        if (!isSheet(s) || !isSheet(t) || !isSheet(u) || what < TOGETHER || what > TIMES) {
            return BAD;
        }
        if (!reads(s, first) || !reads(t, second)) {
            return found(NULL);
        }
        if (what == TOGETHER) {
            result.becomeTotal(first, second);
        } else if (what == LESS) {
            result.becomeRest(first, second);
        } else {
            result.becomeTimes(first, second);
        }
        return becomes(u, result);
    }

    public int over(int s, int t, int u) {
        if (!isSheet(s) || !isSheet(t) || !isSheet(u)) {
            return BAD;
        }
        if (!reads(s, first) || !reads(t, second)) {
            return found(NULL);
        }
        if (!second.canDivide()) {
            return NOT;
        }
        result.becomeQuotient(first, second);
        return becomes(u, result);
    }

    public int into(int s, int t, int u) {
        if (!isSheet(s) || !isSheet(t) || !isSheet(u)) {
            return BAD;
        }
        if (!reads(s, first) || !reads(t, second)) {
            return found(NULL);
        }
        if (!second.canBePutIn()) {
            return NOT;
        }
        result.becomeInto(first, second);
        return becomes(u, result);
    }

    public int turn(int s, int u) {
        if (!isSheet(s) || !isSheet(u)) {
            return BAD;
        }
        if (!reads(s, first)) {
            return found(NULL);
        }
        if (!first.canTurn()) {
            return NOT;
        }
        algebra.turned(first, result);
        return becomes(u, result);
    }

    public int power(int s, int n, int u) {
        if (!isSheet(s) || n < 0 || n > MOST_POWER || !isSheet(u)) {
            return BAD;
        }
        if (!reads(s, first)) {
            return found(NULL);
        }
        result.becomeRaised(first, n);
        return becomes(u, result);
    }

    public int value(int s, int x) {
        if (!isSheet(s)) {
            return BAD;
        }
        if (!reads(s, first)) {
            return found(NULL);
        }
        return first.valueAt(x);
    }

    public int apply(int s, int t, int u) {
        if (!isSheet(s) || !isSheet(t) || !isSheet(u)) {
            return BAD;
        }
        if (!reads(s, first) || !reads(t, second)) {
            return found(NULL);
        }
        algebra.operated(first, second, result);
        return becomes(u, result);
    }

    // ---- ladders

    public int ladder(int k, int g, int f) {
        if (!isLadder(k) || !isSheet(g) || !isSheet(f)) {
            return BAD;
        }
        if (!reads(g, first) || !reads(f, second)) {
            return found(NULL);
        }
        if (!first.canDivide() || !second.canTurn()) {
            return NOT;
        }
        algebra.build(ladders[k], first, second);
        return 1;
    }

    public int step(int k, int n, int j) {
        if (!isLadder(k) || !isPlace(n) || !isPlace(j)) {
            return BAD;
        }
        if (!ladders[k].stands) {
            return NOT;
        }
        return ladders[k].steps[n].c[j];
    }

    public int at(int k, int n, int x) {
        if (!isLadder(k) || !isPlace(n)) {
            return BAD;
        }
        if (!ladders[k].stands) {
            return NOT;
        }
        return ladders[k].steps[n].valueAt(x);
    }

    public int tell(int k, int n, int u) {
        if (!isLadder(k) || !isPlace(n) || !isSheet(u)) {
            return BAD;
        }
        if (!ladders[k].stands) {
            return NOT;
        }
        return becomes(u, ladders[k].steps[n]);
    }

    public int lowers(int k, int s) {
        if (!isLadder(k) || !isSheet(s)) {
            return BAD;
        }
        if (!reads(s, first)) {
            return found(NULL);
        }
        if (!ladders[k].stands) {
            return NOT;
        }
        return algebra.firstNotLowered(ladders[k], first);
    }

    public int bound(int one, int other, int n, int j) {
        if (!isLadder(one) || !isLadder(other) || !isPlace(n) || !isPlace(j)) {
            return BAD;
        }
        if (!ladders[one].stands || !ladders[other].stands) {
            return NOT;
        }
        return algebra.toldIn(ladders[one].steps[n], ladders[other], j);
    }

    public int binomial(int k) {
        if (!isLadder(k)) {
            return BAD;
        }
        if (!ladders[k].stands) {
            return NOT;
        }
        return algebra.binomialUpTo(ladders[k]);
    }

    // ---- sums

    public int sum(int s, int a, int many) {
        if (!isSheet(s) || many < 0 || many > MOST_SUMMED) {
            return BAD;
        }
        if (!reads(s, first)) {
            return found(NULL);
        }
        return algebra.summed(first, a, many);
    }

    public int through(int s, int n, int u) {
        if (!isSheet(s) || n < 1 || n > TERMS || !isSheet(u)) {
            return BAD;
        }
        if (!reads(s, first)) {
            return found(NULL);
        }
        algebra.throughValues(first, n, result);
        becomes(u, result);
        return result.degree();
    }

    public int difference(int s, int k, int a) {
        if (!isSheet(s) || !isPlace(k)) {
            return BAD;
        }
        if (!reads(s, first)) {
            return found(NULL);
        }
        return algebra.differenceAt(first, k, a);
    }

    // ---- triangles

    public int triangle(int g, int f, int n, int k) {
        if (!isSheet(g) || !isSheet(f) || !isPlace(n) || !isPlace(k)) {
            return BAD;
        }
        if (!reads(g, first) || !reads(f, second)) {
            return found(NULL);
        }
        if (!second.canBePutIn()) {
            return NOT;
        }
        result.becomeRaised(second, k);
        result.becomeTimes(first, result);
        return result.c[n];
    }

    public int product(int g, int f, int h, int l, int u, int v) {
        if (!isSheet(g) || !isSheet(f) || !isSheet(h) || !isSheet(l)) {
            return BAD;
        }
        if (!isSheet(u) || !isSheet(v) || u == v) {
            return BAD;
        }
        if (!reads(g, first) || !reads(f, second) || !reads(h, third) || !reads(l, fourth)) {
            return found(NULL);
        }
        if (!second.canBePutIn() || !fourth.canBePutIn()) {
            return NOT;
        }
        result.becomeInto(third, second);
        result.becomeTimes(first, result);
        otherResult.becomeInto(fourth, second);
        becomes(u, result);
        becomes(v, otherResult);
        return 1;
    }

    public int back(int g, int f, int u, int v) {
        if (!isSheet(g) || !isSheet(f) || !isSheet(u) || !isSheet(v) || u == v) {
            return BAD;
        }
        if (!reads(g, first) || !reads(f, second)) {
            return found(NULL);
        }
        if (!first.canDivide() || !second.canTurn()) {
            return NOT;
        }
        algebra.turned(second, otherResult);
        algebra.oneByInto(first, otherResult, result);
        becomes(u, result);
        becomes(v, otherResult);
        return 1;
    }

    public int aRow(int f, int u) {
        if (!isSheet(f) || !isSheet(u)) {
            return BAD;
        }
        if (!reads(f, first)) {
            return found(NULL);
        }
        if (!first.canTurn()) {
            return NOT;
        }
        algebra.turned(first, second);
        algebra.tBy(second, result);
        becomes(u, result);
        return result.c[0];
    }

    public int count(int what) {
        switch (what) {
            case 0:
                return sheetsKept();
            case 1:
                return laddersStanding();
            case 2:
                return latestFinding;
            default:
                return BAD;
        }
    }

    public long digest() {
        long h = 17;
        h = 31 * h + sheetsKept();
        h = 31 * h + laddersStanding();
        for (int s = 0; s < SHEETS; s++) {
            if (reads(s, first)) {
                h = first.mixedInto(31 * h + s);
            }
        }
        for (int k = 0; k < LADDERS; k++) {
            if (ladders[k].stands) {
                h = ladders[k].steps[TOP].mixedInto(31 * h + k);
            }
        }
        return h;
    }

    // ---- what the calls share

    private static boolean isSheet(int s) {
        return s >= 0 && s < SHEETS;
    }

    private static boolean isForm(int form) {
        return form >= 0 && form < FORMS;
    }

    private static boolean isLadder(int k) {
        return k >= 0 && k < LADDERS;
    }

    /** Terms, degrees and rows all go from 0 to 9. */
    private static boolean isPlace(int i) {
        return i >= 0 && i < TERMS;
    }

    private static int narrowed(int form, int v) {
        if (form == BYTES) {
            return (byte) v;
        }
        return form == SHORTS ? (short) v : v;
    }

    private int found(int finding) {
        latestFinding = finding;
        return -10 - finding;
    }

    private boolean reads(int s, Series to) {
        if (sheets[s].lost) {
            return false;
        }
        for (int i = 0; i < TERMS; i++) {
            to.c[i] = sheets[s].number(i);
        }
        return true;
    }

    private int becomes(int u, Series from) {
        sheets[u].renew(INTS, TERMS);
        System.arraycopy(from.c, 0, sheets[u].items, 0, TERMS);
        return from.c[TOP];
    }

    private int sheetsKept() {
        int kept = 0;
        for (int s = 0; s < SHEETS; s++) {
            if (!sheets[s].lost) {
                kept++;
            }
        }
        return kept;
    }

    private int laddersStanding() {
        int standing = 0;
        for (int k = 0; k < LADDERS; k++) {
            if (ladders[k].stands) {
                standing++;
            }
        }
        return standing;
    }

    /** NUMBERS: 0 to 10006. */
    private static final class Numbers {
        static int of(int v) {
            return Math.floorMod(v, PRIME);
        }

        /** By Fermat, so that nothing is divided; 0 for 0. */
        static int inverse(int v) {
            int inverse = 1;
            for (int bit = EXPONENT_BITS - 1; bit >= 0; bit--) {
                inverse = inverse * inverse % PRIME;
                if (((PRIME - 2) >> bit & 1) != 0) {
                    inverse = inverse * v % PRIME;
                }
            }
            return inverse;
        }
    }

    /** One row of the longest length serves every row that the SHEET ever becomes. */
    private static final class Sheet {
        final int[] items = new int[MOST_ITEMS];
        boolean lost = true;
        int form = 0;
        int size = 0;

        void renew(int newForm, int newSize) {
            Arrays.fill(items, 0);
            lost = false;
            form = newForm;
            size = newSize;
        }

        int findingAt(int asForm, int i) {
            if (lost) {
                return NULL;
            }
            if (form != asForm) {
                return CAST;
            }
            return i < 0 || i >= size ? INDEX : 0;
        }

        /** Compares by subtraction: a sum of two great ints would wrap. */
        boolean hasStretch(int from, int many) {
            return from >= 0 && many >= 0 && from <= size && many <= size - from;
        }

        int number(int i) {
            return i >= 0 && i < size ? Numbers.of(items[i]) : 0;
        }
    }

    /** A sum of ten products of NUMBERS is still an int, so sums are reduced only once. */
    private static final class Series {
        final int[] c = new int[TERMS];

        boolean canDivide() {
            return c[0] != 0;
        }

        boolean canBePutIn() {
            return c[0] == 0;
        }

        boolean canTurn() {
            return c[0] == 0 && c[1] != 0;
        }

        void becomeConstant(int a) {
            Arrays.fill(c, 0);
            c[0] = a;
        }

        void becomeCopyOf(Series s) {
            System.arraycopy(s.c, 0, c, 0, TERMS);
        }

        void becomeTotal(Series s, Series t) {
            for (int i = 0; i < TERMS; i++) {
                c[i] = (s.c[i] + t.c[i]) % PRIME;
            }
        }

        void becomeRest(Series s, Series t) {
            for (int i = 0; i < TERMS; i++) {
                c[i] = Numbers.of(s.c[i] - t.c[i]);
            }
        }

        /** From the last term down, so that s and t may be this very object. */
        void becomeTimes(Series s, Series t) {
            for (int n = TOP; n >= 0; n--) {
                int total = 0;
                for (int i = 0; i <= n; i++) {
                    total += s.c[i] * t.c[n - i];
                }
                c[n] = total % PRIME;
            }
        }

        /** t is read to the end, so it must not be this object. */
        void becomeQuotient(Series s, Series t) {
            int inverse = Numbers.inverse(t.c[0]);
            for (int n = 0; n < TERMS; n++) {
                int known = 0;
                for (int i = 1; i <= n; i++) {
                    known += t.c[i] * c[n - i];
                }
                c[n] = Numbers.of(s.c[n] - known) * inverse % PRIME;
            }
        }

        /** Horner's way; neither s nor t may be this object. */
        void becomeInto(Series s, Series t) {
            becomeConstant(s.c[TOP]);
            for (int i = TOP - 1; i >= 0; i--) {
                becomeTimes(this, t);
                c[0] = (c[0] + s.c[i]) % PRIME;
            }
        }

        /** s must not be this object. */
        void becomeRaised(Series s, int n) {
            becomeConstant(1);
            for (int bit = POWER_BITS - 1; bit >= 0; bit--) {
                becomeTimes(this, this);
                if ((n >> bit & 1) != 0) {
                    becomeTimes(this, s);
                }
            }
        }

        /** What stands behind t to the 9 is not known: c 9 becomes 0. */
        void becomeShiftedDown(Series s) {
            System.arraycopy(s.c, 1, c, 0, TOP);
            c[TOP] = 0;
        }

        void becomeShiftedUp(Series s) {
            System.arraycopy(s.c, 0, c, 1, TOP);
            c[0] = 0;
        }

        void becomeTimesFactor(int root) {
            for (int i = TOP; i > 0; i--) {
                c[i] = Numbers.of(c[i - 1] - root * c[i]);
            }
            c[0] = Numbers.of(-root * c[0]);
        }

        int valueAt(int x) {
            int place = Numbers.of(x);
            int total = 0;
            for (int i = TOP; i >= 0; i--) {
                total = (total * place + c[i]) % PRIME;
            }
            return total;
        }

        int degree() {
            for (int i = TOP; i > 0; i--) {
                if (c[i] != 0) {
                    return i;
                }
            }
            return 0;
        }

        long mixedInto(long start) {
            long h = start;
            for (int i = 0; i < TERMS; i++) {
                h = 31 * h + c[i];
            }
            return h;
        }
    }

    /** steps[n] is p n, as a SERIES in x. */
    private static final class Ladder {
        final Series[] steps = new Series[TERMS];
        boolean stands = false;

        Ladder() {
            for (int n = 0; n < TERMS; n++) {
                steps[n] = new Series();
            }
        }
    }

    /** What needs tables or rows to reckon on; they are made once for the whole object. */
    private static final class Algebra {
        private static final int PLACES = 2 * TOP + 1;

        private final int[] inverses = new int[TERMS + 1];
        private final int[] factorials = new int[TERMS];
        private final int[] inverseFactorials = new int[TERMS];
        private final int[][] choices = new int[TERMS][TERMS];
        private final int[][] values = new int[TERMS][PLACES];
        private final int[] differences = new int[TERMS];
        private final Series one = new Series();
        private final Series shifted = new Series();
        private final Series base = new Series();
        private final Series running = new Series();
        private final Series turnedOne = new Series();

        Algebra() {
            one.becomeConstant(1);
            for (int n = 1; n <= TERMS; n++) {
                inverses[n] = Numbers.inverse(n);
            }
            factorials[0] = 1;
            inverseFactorials[0] = 1;
            for (int n = 1; n < TERMS; n++) {
                factorials[n] = factorials[n - 1] * n % PRIME;
                inverseFactorials[n] = inverseFactorials[n - 1] * inverses[n] % PRIME;
            }
            for (int n = 0; n < TERMS; n++) {
                choices[n][0] = 1;
                for (int k = 1; k <= n; k++) {
                    choices[n][k] = choices[n - 1][k - 1] + choices[n - 1][k];
                }
            }
        }

        void ofKind(int kind, int a, Series out) {
            switch (kind) {
                case 0:
                    out.becomeConstant(0);
                    out.c[1] = 1;
                    break;
                case 1:
                    exponential(a, out);
                    break;
                case 2:
                    exponential(a, out);
                    out.c[0] = 0;
                    break;
                case 3:
                    geometric(a, out);
                    break;
                case 4:
                    exponential(a, running);
                    out.becomeShiftedUp(running);
                    break;
                case 5:
                    logarithm(a, out);
                    break;
                case 6:
                    geometric(Numbers.of(-a), running);
                    out.becomeShiftedUp(running);
                    break;
                default:
                    out.becomeConstant(a);
                    break;
            }
        }

        private void geometric(int a, Series out) {
            out.c[0] = 1;
            for (int n = 1; n < TERMS; n++) {
                out.c[n] = out.c[n - 1] * a % PRIME;
            }
        }

        private void exponential(int a, Series out) {
            geometric(a, out);
            for (int n = 0; n < TERMS; n++) {
                out.c[n] = out.c[n] * inverseFactorials[n] % PRIME;
            }
        }

        /** The powers of -a carry the changing signs, all of them the wrong way round. */
        private void logarithm(int a, Series out) {
            geometric(Numbers.of(-a), out);
            out.c[0] = 0;
            for (int n = 1; n < TERMS; n++) {
                out.c[n] = Numbers.of(-(out.c[n] * inverses[n]));
            }
        }

        /** Lagrange: n times c n of f TURNED is what t to the n - 1 has in (t by f) to the n. */
        void turned(Series f, Series out) {
            tBy(f, base);
            running.becomeConstant(1);
            out.c[0] = 0;
            for (int n = 1; n < TERMS; n++) {
                running.becomeTimes(running, base);
                out.c[n] = running.c[n - 1] * inverses[n] % PRIME;
            }
        }

        /** c 9 would want the term of f behind t to the 9, so it is 0. */
        void tBy(Series f, Series out) {
            shifted.becomeShiftedDown(f);
            out.becomeQuotient(one, shifted);
            out.c[TOP] = 0;
        }

        void oneByInto(Series g, Series f, Series out) {
            running.becomeInto(g, f);
            out.becomeQuotient(one, running);
        }

        void operated(Series operator, Series polynomial, Series out) {
            for (int m = 0; m < TERMS; m++) {
                int total = 0;
                for (int n = m; n < TERMS; n++) {
                    total += operator.c[n - m] * (polynomial.c[n] * factorials[n] % PRIME);
                }
                out.c[m] = total % PRIME * inverseFactorials[m] % PRIME;
            }
        }

        void build(Ladder ladder, Series g, Series f) {
            turned(f, turnedOne);
            oneByInto(g, turnedOne, base);
            for (int k = 0; k < TERMS; k++) {
                for (int n = 0; n < TERMS; n++) {
                    int share = base.c[n] * factorials[n] % PRIME;
                    ladder.steps[n].c[k] = share * inverseFactorials[k] % PRIME;
                }
                base.becomeTimes(base, turnedOne);
            }
            ladder.stands = true;
        }

        int firstNotLowered(Ladder ladder, Series operator) {
            for (int n = 1; n < TERMS; n++) {
                operated(operator, ladder.steps[n], running);
                if (!isTimes(running, n, ladder.steps[n - 1])) {
                    return n;
                }
            }
            return NONE;
        }

        private static boolean isTimes(Series s, int n, Series t) {
            for (int i = 0; i < TERMS; i++) {
                if (s.c[i] != n * t.c[i] % PRIME) {
                    return false;
                }
            }
            return true;
        }

        /** Takes the highest steps away first: only they reach the highest degrees. */
        int toldIn(Series polynomial, Ladder ladder, int j) {
            running.becomeCopyOf(polynomial);
            int share = 0;
            for (int k = TOP; k >= j; k--) {
                Series step = ladder.steps[k];
                share = running.c[k] * Numbers.inverse(step.c[k]) % PRIME;
                for (int i = 0; i <= k; i++) {
                    running.c[i] = Numbers.of(running.c[i] - share * step.c[i]);
                }
            }
            return share;
        }

        int binomialUpTo(Ladder ladder) {
            for (int n = 0; n < TERMS; n++) {
                for (int x = 0; x < PLACES; x++) {
                    values[n][x] = ladder.steps[n].valueAt(x);
                }
            }
            int greatest = NONE;
            for (int m = 0; m < TERMS && isBinomialAt(m); m++) {
                greatest = m;
            }
            return greatest;
        }

        private boolean isBinomialAt(int m) {
            for (int x = 0; x <= m; x++) {
                for (int y = 0; y <= m; y++) {
                    int total = 0;
                    for (int k = 0; k <= m; k++) {
                        total += choices[m][k] * values[k][x] % PRIME * values[m - k][y];
                    }
                    if (total % PRIME != values[m][x + y]) {
                        return false;
                    }
                }
            }
            return true;
        }

        int summed(Series polynomial, int a, int many) {
            fillDifferencesAt(polynomial, a);
            int top = Numbers.of(many);
            int choice = 1;
            int total = 0;
            for (int k = 0; k < TERMS; k++) {
                choice = choice * Numbers.of(top - k) % PRIME * inverses[k + 1] % PRIME;
                total = (total + differences[k] * choice) % PRIME;
            }
            return total;
        }

        int differenceAt(Series polynomial, int k, int a) {
            fillDifferencesAt(polynomial, a);
            return differences[k];
        }

        private void fillDifferencesAt(Series polynomial, int a) {
            int start = Numbers.of(a);
            for (int i = 0; i < TERMS; i++) {
                differences[i] = polynomial.valueAt(start + i);
            }
            valuesToDifferences();
        }

        private void valuesToDifferences() {
            for (int order = 1; order < TERMS; order++) {
                for (int i = TOP; i >= order; i--) {
                    differences[i] = Numbers.of(differences[i] - differences[i - 1]);
                }
            }
        }

        /** Newton's form: the k-th difference at 0 times (x over k), told by Horner's way. */
        void throughValues(Series given, int many, Series out) {
            System.arraycopy(given.c, 0, differences, 0, TERMS);
            valuesToDifferences();
            out.becomeConstant(0);
            for (int k = many - 1; k >= 0; k--) {
                out.becomeTimesFactor(k);
                int lead = differences[k] * inverseFactorials[k] % PRIME;
                out.c[0] = (out.c[0] + lead) % PRIME;
            }
        }
    }
}
