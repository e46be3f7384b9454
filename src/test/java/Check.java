/** Counts the calls whose answer is not the one that is due. */
final class Check {
    private int wrong = 0;
    private int asked = 0;

    void due(String call, long got, long want) {
        asked++;
        if (got != want) {
            wrong++;
            System.out.println(call + " answered " + got + ", due is " + want);
        }
    }

    void due(String what, boolean holds) {
        due(what, holds ? 1 : 0, 1);
    }

    void same(String what, String got, String want) {
        asked++;
        if (!got.equals(want)) {
            wrong++;
            System.out.println(what + " tells " + got + ", due is " + want);
        }
    }

    /** c 0 on of a SHEET; terms that are not named are due to be 0. */
    void series(String name, DeltaLadders x, int s, long... want) {
        for (int i = 0; i < 10; i++) {
            long number = i < want.length ? Math.floorMod(want[i], 10007L) : 0;
            due(name + " term " + i, x.term(s, i), number);
        }
    }

    /** A refusal leaves all that digest() tells as it was. */
    void refused(String name, DeltaLadders x, long digestBefore, long got, long want) {
        due(name, got, want);
        due(name + ", digest after it", x.digest(), digestBefore);
    }

    boolean tooMany() {
        return wrong > 20;
    }

    void end(String test) {
        System.out.println(test + ": " + asked + " answers, " + wrong + " wrong");
        if (wrong != 0) {
            System.exit(1);
        }
    }
}
