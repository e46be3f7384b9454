/**
 * Asks calls beside their boundaries on objects that are made anew for each, and looks at all that
 * the face tells of such an object: a refused call is to change nothing there but count() 2.
 */
final class Edges {
    static final int LEAST = Integer.MIN_VALUE, GREATEST = Integer.MAX_VALUE;
    /** 0 as NUMBERS, and their neighbours that are not. */
    static final int[] ZEROS = {0, 10007, -10007, 10007 * 214000};
    static final int[] NOT_ZEROS = {1, -1, 10006, 10008, -10006, -10008, LEAST, GREATEST};
    private static final int BAD = -2, NOT = -3, SIZE = 5;
    private static final int SHEETS = 8, LADDERS = 4, COUNTS = SHEETS + LADDERS, PARTS = COUNTS + 1;

    interface Setup {
        DeltaLadders make();
    }

    interface Call {
        long on(DeltaLadders x);
    }

    interface CallWith {
        long on(DeltaLadders x, int v);
    }

    private final Check check;
    private final Setup setup;
    private final String[] before = new String[PARTS];

    Edges(Check check, Setup setup) {
        this.check = check;
        this.setup = setup;
        for (int part = 0; part < PARTS; part++) {
            before[part] = look(setup.make(), part);
        }
        check.due("an object is set up without findings", setup.make().count(2), 0);
    }

    /** The room with one SHEET of it made anew. */
    static Edges ofRoomWith(Check check, int s, int... items) {
        return new Edges(check, () -> {
            DeltaLadders x = Room.make();
            Make.ints(x, s, items);
            return x;
        });
    }

    /** The part that a call on a LADDER changes. */
    static int ladder(int k) {
        return SHEETS + k;
    }

    void bad(String name, Call call) {
        refused(name, call, BAD, 0);
    }

    void not(String name, Call call) {
        refused(name, call, NOT, 0);
    }

    void found(String name, int finding, Call call) {
        refused(name, call, -10 - finding, finding);
    }

    /** get() answers the least int for every refusal; a finding of 0 is BAD. */
    void least(String name, int finding, Call call) {
        refused(name, call, LEAST, finding);
    }

    /** Just outside low to high, and as far outside as ints go. */
    void badBeside(String name, int low, int high, CallWith call) {
        for (int v : new int[] {low - 1, high + 1, LEAST, GREATEST}) {
            bad(name + " " + v, x -> call.on(x, v));
        }
    }

    /** A good call leaves count() 2 as it was, and all parts that are not named. */
    void inside(String name, long want, Call call, int... changed) {
        for (int prior : new int[] {0, SIZE}) {
            DeltaLadders asked = fresh(prior);
            check.due(name, call.on(asked), want);
            check.due(name + ", count(2) after it", asked.count(2), prior);
        }
        for (int part = 0; part < PARTS; part++) {
            if (!isChanged(part, changed)) {
                looksAsBefore(name, call, 0, part);
            }
        }
    }

    private static boolean isChanged(int part, int... changed) {
        if (part == COUNTS) {
            return changed.length > 0;
        }
        for (int one : changed) {
            if (one == part) {
                return true;
            }
        }
        return false;
    }

    private void refused(String name, Call call, long want, int finding) {
        for (int prior : new int[] {0, SIZE}) {
            DeltaLadders asked = fresh(prior);
            check.due(name, call.on(asked), want);
            check.due(name + ", count(2) after it", asked.count(2), finding == 0 ? prior : finding);
            for (int part = 0; part < PARTS; part++) {
                looksAsBefore(name, call, prior, part);
            }
        }
    }

    private void looksAsBefore(String name, Call call, int prior, int part) {
        DeltaLadders asked = fresh(prior);
        call.on(asked);
        check.same(name + ", part " + part + " after it", look(asked, part), before[part]);
    }

    private DeltaLadders fresh(int prior) {
        DeltaLadders x = setup.make();
        if (prior == SIZE) {
            x.sheet(0, 0, -1);
        }
        return x;
    }

    /** A part at a time, as an object promises only 512 calls. */
    private static String look(DeltaLadders x, int part) {
        if (part < SHEETS) {
            return lookAtSheet(x, part);
        }
        if (part < COUNTS) {
            return lookAtLadder(x, part - SHEETS);
        }
        return x.count(0) + " sheets, " + x.count(1) + " ladders, digest " + x.digest();
    }

    /** The finding tells an item that is the least int from one that is not there. */
    private static String lookAtSheet(DeltaLadders x, int s) {
        StringBuilder told = new StringBuilder();
        for (int form = 0; form < 3; form++) {
            told.append(" form ").append(form).append(':');
            for (int i = 0; i < 21; i++) {
                x.sheet(0, 0, -1);
                int item = x.get(s, form, i);
                int finding = x.count(2);
                told.append(finding == SIZE ? " " + item : " finding " + finding);
            }
        }
        return told.toString();
    }

    private static String lookAtLadder(DeltaLadders x, int k) {
        StringBuilder told = new StringBuilder();
        for (int n = 0; n < 10; n++) {
            told.append(" p").append(n).append(':');
            for (int j = 0; j < 10; j++) {
                told.append(' ').append(x.step(k, n, j));
            }
        }
        return told.toString();
    }
}
