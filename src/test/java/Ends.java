/** Asks a call with its SHEETS at either end of 0 .. 7, and onto the very SHEETS that it asks. */
final class Ends {
    private static final int[][][] PLACES = {
        {{}}, {{0}, {7}}, {{0, 7}, {7, 0}}, {},
        {{0, 7, 1, 2}, {7, 0, 2, 1}, {1, 2, 0, 7}, {2, 1, 7, 0}}};
    private static final int[][][] TARGETS = {{{}}, {{0}, {7}, {3}}, {{0, 7}, {7, 0}, {3, 4}}};

    interface CallOn {
        long on(DeltaLadders x, int[] asked, int[] to);
    }

    private Ends() {
    }

    static void ask(Check check, String name, int[][] given, long answer, CallOn call, long[]... wanted) {
        for (int[] asked : PLACES[given.length]) {
            for (int[] to : TARGETS[wanted.length]) {
                String told = name + java.util.Arrays.toString(asked) + java.util.Arrays.toString(to);
                DeltaLadders x = new DeltaLadders();
                stir(x);
                for (int i = 0; i < given.length; i++) {
                    Make.ints(x, asked[i], given[i]);
                }
                check.due(told, call.on(x, asked, to), answer);
                check.due(told + ", no finding", x.count(2), 0);
                comes(check, told, x, to, wanted);
                stays(check, told, x, asked, given, to);
            }
        }
    }

    /** Leaves numbers in whatever the object reckons on, and all SHEETS LOST. */
    private static void stir(DeltaLadders x) {
        Make.ints(x, 5, 2, 3, 4, 5, 6, 7, 8, 9, 10, 11);
        Make.ints(x, 6, 0, 3, 4, 5, 6, 7, 8, 9, 10, 11);
        x.back(5, 6, 3, 4);
        x.product(5, 6, 5, 6, 3, 4);
        x.difference(5, 9, 1);
        x.join(5, 5, 3, 2);
        for (int s = 3; s < 7; s++) {
            x.lose(s);
        }
    }

    private static void comes(Check check, String name, DeltaLadders x, int[] to, long[][] wanted) {
        for (int i = 0; i < to.length; i++) {
            check.series(name + " came to " + to[i], x, to[i], wanted[i]);
            check.due(name + " has an item 9", x.get(to[i], 2, 9), x.term(to[i], 9));
            check.due(name + " has no item 10", x.get(to[i], 2, 10), Integer.MIN_VALUE);
            check.due(name + " INDEX", x.count(2), 2);
        }
    }

    private static void stays(Check check, String name, DeltaLadders x, int[] asked, int[][] given, int[] to) {
        for (int i = 0; i < asked.length; i++) {
            boolean kept = true;
            for (int u : to) {
                kept &= u != asked[i];
            }
            for (int j = 0; kept && j < given[i].length; j++) {
                check.due(name + " stays " + asked[i], x.get(asked[i], 2, j), given[i][j]);
            }
        }
    }
}
