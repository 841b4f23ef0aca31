/** Books that tests begin with, and all that a book tells. */
final class Books {
    static final int NONE = TrialBook.NONE;
    static final int MOST = Integer.MAX_VALUE;
    static final int LEAST = Integer.MIN_VALUE;

    private Books() {
    }

    /** Gives code k these steps. */
    static void steps(TrialBook x, int k, int... steps) {
        long all = 0;
        for (int j = 0; j < 8; j++) {
            all = all << 8 | (j < steps.length ? steps[j] : 0);
        }
        if (!x.code(k, steps.length, (int) (all >> 32), (int) all)) {
            throw new IllegalStateException("code " + k + " was refused");
        }
    }

    /** The last row of a new run of code 0 with these steps. */
    static int end(TrialBook x, int settings, int seed, int ticks, int... steps) {
        steps(x, 0, steps);
        int r = x.run(0, settings, seed, ticks);
        return x.of(r, 99 + ticks);
    }

    /**
     * A book with something of each kind: runs 0 and 1 make a pair, 2 is broken behind two rows, 3 read
     * the clock, 4 is a fork; 0 and 4 are claimed; code 3 has no steps.
     */
    static TrialBook sample() {
        TrialBook x = new TrialBook();
        x.data(0, 5);
        x.data(3, -2);
        x.bound(0, 3);
        x.bound(1, 1);
        steps(x, 0, 0x20, 0x40, 0x50);
        steps(x, 1, 0x01, 0x92);
        steps(x, 2, 0x60);
        x.run(0, 0x0000, 1, 2);
        x.run(0, 0x0001, 1, 2);
        x.run(1, 0x0000, 0, 4);
        x.run(2, 0x0000, 0, 3);
        x.fork(0, 1, 0x0001, 1);
        x.claim(0);
        x.claim(4);
        return x;
    }

    /** A book of 40 runs, each of one row, 15. */
    static TrialBook full() {
        TrialBook x = new TrialBook();
        steps(x, 0, 0x0F);
        for (int r = 0; r < 40; r++) {
            x.run(0, 0x0000, r, 1);
        }
        return x;
    }

    /**
     * So many pairs by setting 0, 0 against 1, won and lost, and perhaps a tie, of one tick: the one run at 1
     * leaves the word out, so that it pairs with each at 0.
     */
    static TrialBook withMany(int won, int lost, boolean tie) {
        TrialBook x = new TrialBook();
        steps(x, 0, 0x30, 0x50);
        for (int n = 0; n < won + lost; n++) {
            x.data(0, n < won ? -1 - n : 1 + n);
            x.run(0, 0, 0, 1);
        }
        x.data(0, 0);
        if (tie) {
            x.run(0, 0, 0, 1);
        }
        x.run(0, 1, 0, 1);
        return x;
    }

    /** All that a book tells, in fewer than 300 calls; it is used up by this. */
    static String told(TrialBook x) {
        StringBuilder all = new StringBuilder();
        all.append("clock ").append(x.clock()).append(" runs ").append(x.runs()).append(" idle ").append(x.idle());
        for (int r = 0; r < Math.min(5, x.runs()); r++) {
            tellRun(x, r, all);
        }
        tellRun(x, x.runs() - 1, all);
        for (int i = 0; i < 3; i++) {
            all.append(" claim ").append(x.claimed(i, 0)).append(' ').append(x.claimed(i, 1)).append(' ').append(x.claimed(i, 2));
        }
        all.append(" pairs ").append(x.pairs(0, 0, 1, 2, 0)).append(" best ").append(x.best(0, 2, 1));
        // The last hole of a code that no run has tells all four bounds.
        int holes = x.holes(3, 1, 1);
        all.append(" holes ").append(holes).append(' ').append(Integer.toHexString(x.hole(3, 1, 1, holes - 1, 0)));
        tellCodes(x, all);
        return all.toString();
    }

    private static void tellRun(TrialBook x, int r, StringBuilder all) {
        all.append(" run ").append(r).append(':');
        for (int what = 0; what < 13; what++) {
            all.append(' ').append(x.of(r, what));
        }
        for (int t = 0; t < 4; t++) {
            all.append(' ').append(x.of(r, 100 + t));
        }
        all.append(" loose ").append(x.loose(r));
    }

    /** Codes and data show in what new runs do. */
    private static void tellCodes(TrialBook x, StringBuilder all) {
        for (int k = 0; k < 4; k++) {
            int r = x.run(k, 0x3210, 7, 8);
            all.append(" code ").append(k).append(':');
            for (int t = 0; t < 8; t++) {
                all.append(' ').append(x.of(r, 100 + t));
            }
        }
        int r = x.code(3, 1, 0x50000000, 0) ? x.run(3, 0, 0, 8) : NONE;
        all.append(" data:");
        for (int t = 0; t < 8; t++) {
            all.append(' ').append(x.of(r, 100 + t));
        }
    }
}
