import java.util.Random;

/** Long runs of mixed calls, each answered by the class and by the model; the seeds are fixed. */
public final class ModelTest {
    private static final int RUNS = 1000, CALLS = 150;
    private static final Check check = new Check();
    private static final int[] EXTREMES = {
        Integer.MIN_VALUE, Integer.MAX_VALUE, -1, -2, 8, 9, 10, 20, 21, 1000, 1001, 10006, 10007, 2000000000, 2000000001};
    private static final int CALL_KINDS = 30;
    // The document promises 512 calls of an object: 160 of them look at all items at the end.
    private static final int MOST_CALLS = 512 - 160;

    private final Random random;
    private final DeltaLadders x = new DeltaLadders();
    private final Model model = new Model();
    private int used = 0;

    private ModelTest(int seed) {
        random = new Random(seed);
    }

    public static void main(String[] args) {
        int[] good = new int[CALL_KINDS];
        for (int run = 0; run < RUNS && !check.tooMany(); run++) {
            new ModelTest(run).run(run, good);
        }
        for (int which = 0; which < CALL_KINDS; which++) {
            check.due("call " + which + " was often not refused", good[which] > 100);
        }
        check.end("ModelTest");
    }

    private void run(int run, int[] good) {
        for (int call = 0; call < CALLS && used < MOST_CALLS - 23 && !check.tooMany(); call++) {
            int which = pick(call);
            int[] a = arguments(which);
            long want = model(which, a);
            String name = "run " + run + ", call " + call + ", " + which + java.util.Arrays.toString(a);
            check.due(name, real(which, a), want);
            check.due(name + ", digest", x.digest(), model.digest());
            check.due(name + ", finding", x.count(2), model.count(2));
            used += 3;
            good[which] += want >= -1 ? 1 : 0;
            if (which == 0 && want > 0) {
                fill(a);
            }
        }
        for (int s = 0; s < 8; s++) {
            for (int i = 0; i < 20; i++) {
                check.due("run " + run + ", at the end", x.get(s, i % 3, i), model.get(s, i % 3, i));
            }
        }
    }

    /** Kinds and ladders come first and often, so that most calls find something to work on. */
    private int pick(int call) {
        if (call < 20) {
            return call < 10 ? 6 : 14;
        }
        int pick = random.nextInt(CALL_KINDS + 12);
        return pick < CALL_KINDS ? pick : pick < CALL_KINDS + 6 ? 6 : pick < CALL_KINDS + 10 ? 14 : 0;
    }

    private void fill(int[] a) {
        for (int i = 0; i < a[2]; i++) {
            int v = random.nextInt(4) == 0 ? 0 : random.nextInt();
            used++;
            check.due("fill", x.put(a[0], a[1], i, v), model.put(a[0], a[1], i, v));
        }
    }

    /** s sheet, k ladder, f form, n place, i item, v any int, a number, w what, p power, m many. */
    private static final String[] SHAPES = {
        "sfi", "s", "sfiv", "sfi", "sisii", "sn", "sKa", "sssw", "sss", "sss", "ss", "sps", "sv", "sss",
        "kss", "knn", "knv", "kns", "ks", "kknn", "k", "svm", "sis", "snv", "ssnn", "ssssss", "ssss", "ss", "w", ""};

    private int[] arguments(int which) {
        String shape = SHAPES[which];
        int[] a = new int[shape.length()];
        for (int i = 0; i < a.length; i++) {
            a[i] = random.nextInt(60) == 0 ? EXTREMES[random.nextInt(EXTREMES.length)] : argument(shape.charAt(i));
        }
        return a;
    }

    private int argument(char shape) {
        return switch (shape) {
            case 's' -> random.nextInt(8);
            case 'k' -> random.nextInt(4);
            case 'f', 'w' -> random.nextInt(3);
            case 'n' -> random.nextInt(10);
            case 'i' -> random.nextInt(12);
            case 'K' -> random.nextInt(8);
            case 'a' -> random.nextInt(3) == 0 ? random.nextInt(3) : random.nextInt(10007);
            case 'p' -> random.nextInt(4) == 0 ? random.nextInt(1001) : random.nextInt(12);
            case 'm' -> random.nextInt(2000000001);
            default -> random.nextBoolean() ? random.nextInt(30) - 10 : random.nextInt();
        };
    }

    private long real(int which, int[] a) {
        return switch (which) {
            case 0 -> x.sheet(a[0], a[1], a[2]);
            case 1 -> x.lose(a[0]);
            case 2 -> x.put(a[0], a[1], a[2], a[3]);
            case 3 -> x.get(a[0], a[1], a[2]);
            case 4 -> x.copy(a[0], a[1], a[2], a[3], a[4]);
            case 5 -> x.term(a[0], a[1]);
            case 6 -> x.kind(a[0], a[1], a[2]);
            case 7 -> x.join(a[0], a[1], a[2], a[3]);
            case 8 -> x.over(a[0], a[1], a[2]);
            case 9 -> x.into(a[0], a[1], a[2]);
            case 10 -> x.turn(a[0], a[1]);
            case 11 -> x.power(a[0], a[1], a[2]);
            case 12 -> x.value(a[0], a[1]);
            case 13 -> x.apply(a[0], a[1], a[2]);
            case 14 -> x.ladder(a[0], a[1], a[2]);
            case 15 -> x.step(a[0], a[1], a[2]);
            case 16 -> x.at(a[0], a[1], a[2]);
            case 17 -> x.tell(a[0], a[1], a[2]);
            case 18 -> x.lowers(a[0], a[1]);
            case 19 -> x.bound(a[0], a[1], a[2], a[3]);
            case 20 -> x.binomial(a[0]);
            case 21 -> x.sum(a[0], a[1], a[2]);
            case 22 -> x.through(a[0], a[1], a[2]);
            case 23 -> x.difference(a[0], a[1], a[2]);
            case 24 -> x.triangle(a[0], a[1], a[2], a[3]);
            case 25 -> x.product(a[0], a[1], a[2], a[3], a[4], a[5]);
            case 26 -> x.back(a[0], a[1], a[2], a[3]);
            case 27 -> x.aRow(a[0], a[1]);
            case 28 -> x.count(a[0]);
            default -> x.count(0);
        };
    }

    private long model(int which, int[] a) {
        return switch (which) {
            case 0 -> model.sheet(a[0], a[1], a[2]);
            case 1 -> model.lose(a[0]);
            case 2 -> model.put(a[0], a[1], a[2], a[3]);
            case 3 -> model.get(a[0], a[1], a[2]);
            case 4 -> model.copy(a[0], a[1], a[2], a[3], a[4]);
            case 5 -> model.term(a[0], a[1]);
            case 6 -> model.kind(a[0], a[1], a[2]);
            case 7 -> model.join(a[0], a[1], a[2], a[3]);
            case 8 -> model.over(a[0], a[1], a[2]);
            case 9 -> model.into(a[0], a[1], a[2]);
            case 10 -> model.turn(a[0], a[1]);
            case 11 -> model.power(a[0], a[1], a[2]);
            case 12 -> model.value(a[0], a[1]);
            case 13 -> model.apply(a[0], a[1], a[2]);
            case 14 -> model.ladder(a[0], a[1], a[2]);
            case 15 -> model.step(a[0], a[1], a[2]);
            case 16 -> model.at(a[0], a[1], a[2]);
            case 17 -> model.tell(a[0], a[1], a[2]);
            case 18 -> model.lowers(a[0], a[1]);
            case 19 -> model.bound(a[0], a[1], a[2], a[3]);
            case 20 -> model.binomial(a[0]);
            case 21 -> model.sum(a[0], a[1], a[2]);
            case 22 -> model.through(a[0], a[1], a[2]);
            case 23 -> model.difference(a[0], a[1], a[2]);
            case 24 -> model.triangle(a[0], a[1], a[2], a[3]);
            case 25 -> model.product(a[0], a[1], a[2], a[3], a[4], a[5]);
            case 26 -> model.back(a[0], a[1], a[2], a[3]);
            case 27 -> model.aRow(a[0], a[1]);
            case 28 -> model.count(a[0]);
            default -> model.count(0);
        };
    }
}
