import java.util.Arrays;
import java.util.function.Supplier;
import java.util.function.ToIntFunction;

/** The edges that the promises name, each sentence with a test of its own; what is refused does nothing. */
public final class PromisesEdgesTest {
    private static final int NONE = Books.NONE;
    private static final int MOST = Books.MOST;
    private static final int LEAST = Books.LEAST;
    private static final int FALSE = 0;
    private static final Due due = new Due();

    /** One call with the arguments a. */
    private interface Asking {
        int ask(TrialBook x, int[] a);
    }

    public static void main(String[] args) {
        newObject();
        code();
        data();
        bound();
        run();
        runRefused();
        fork();
        forkRefused();
        of();
        ofRows();
        clock();
        runs();
        again();
        loose();
        saved();
        pairs();
        pair();
        sure();
        best();
        bestNone();
        holes();
        hole();
        idle();
        claim();
        claimed();
        questions();
        due.end();
    }

    private static int number(boolean yes) {
        return yes ? 1 : 0;
    }

    /** Each call is answered so, and then the book tells just what its twin tells that was not asked. */
    private static void leavesAll(Supplier<TrialBook> book, String name, int want, Asking asking, int[]... rows) {
        String untouched = Books.told(book.get());
        for (int[] row : rows) {
            TrialBook asked = book.get();
            String call = name + Arrays.toString(row);
            due.is(call, asking.ask(asked, row), want);
            due.same(call + " leaves all as it was", Books.told(asked), untouched);
        }
    }

    private static void refused(String name, int refusal, Asking asking, int[]... rows) {
        leavesAll(Books::sample, name, refusal, asking, rows);
    }

    /** A question is answered so, and leaves all as it was. */
    private static void answers(String name, int want, ToIntFunction<TrialBook> question) {
        leavesAll(Books::sample, name, want, (book, a) -> question.applyAsInt(book), new int[0]);
    }

    private static void newObject() {
        due.sentence("TrialBook(): No RUNS, DATA 0.");
        TrialBook used = Books.sample();
        TrialBook x = new TrialBook();
        due.is("runs()", x.runs(), 0);
        due.is("of(0, 0)", x.of(0, 0), NONE);
        due.is("clock()", x.clock(), 0);
        due.is("idle()", x.idle(), 15);
        due.is("claimed(0, 0)", x.claimed(0, 0), NONE);
        due.is("the sum of all words", Books.end(x, 0, 0, 8, 0x50), 0);
        due.is("the other object is as it was", used.runs(), 5);
        due.sentence("The constants: NONE = -1");
        due.is("NONE", TrialBook.NONE, -1);
    }

    private static void code() {
        due.sentence("CODE k has n STEPS (0 .. 8)");
        TrialBook x = new TrialBook();
        for (int n = 0; n <= 8; n++) {
            due.is("n " + n, x.code(n % 4, n, 0x01010101, 0x01010101), true);
            due.is("so many steps", x.of(x.run(n % 4, 0, 0, 1), 100), n);
        }
        due.sentence("bytes of a, then of b, the highest first");
        // Twice what is there and 1, 3, 5, 7 more.
        int[] want = {0, 1, 2, 5, 10, 15, 30, 37, 74};
        for (int n = 0; n <= 8; n++) {
            x.code(0, n, 0x01120312, 0x05120712);
            due.is("the first " + n, x.of(x.run(0, 0, 0, 1), 100), want[n]);
        }
        x.code(0, 8, 0xFFFFFFFF, 0xFFFFFF0F);
        due.is("bytes above 127, the lowest of b", x.of(x.run(0, 0, 0, 1), 100), 15);
        x.code(0, 4, 0xFFFFFF0F, 0xFFFFFFFF);
        due.is("the lowest of a", x.of(x.run(0, 0, 0, 1), 100), 15);
        x.code(0, 5, 0, 0x0F123456);
        due.is("the highest of b", x.of(x.run(0, 0, 0, 1), 100), 15);
        due.sentence("false, and nothing is done, if one can't be");
        refused("code", FALSE, (book, a) -> number(book.code(a[0], a[1], a[2], a[3])), new int[][] {
            {-1, 1, 0x0F000000, 0}, {4, 1, 0x0F000000, 0}, {LEAST, 1, 0, 0}, {MOST, 1, 0, 0}, {0, -1, 0x0F000000, 0},
            {0, 9, 0x0F000000, 0}, {3, 9, -1, -1}, {0, LEAST, 0, 0}, {0, MOST, 0, 0}, {-1, -1, 0, 0}, {4, 9, 0, 0}});
    }

    private static void data() {
        due.sentence("DATA word i is v: true");
        TrialBook x = new TrialBook();
        for (int i = 0; i < 8; i++) {
            due.is("data(" + i + ", least)", x.data(i, LEAST), true);
            due.is("it is least", Books.end(x, 0, 0, 1, 0x50 + i), LEAST);
            due.is("data(" + i + ", most)", x.data(i, MOST), true);
            due.is("it is most", Books.end(x, 0, 0, 1, 0x50 + i), MOST);
        }
        due.sentence("false if there is none such");
        refused("data", FALSE, (book, a) -> number(book.data(a[0], a[1])),
            new int[][] {{-1, 9}, {8, 9}, {LEAST, 9}, {MOST, 9}, {16, 9}, {-8, 9}});
    }

    private static void bound() {
        due.sentence("The BOUND of SETTING i: true");
        TrialBook x = new TrialBook();
        for (int i = 0; i < 4; i++) {
            for (int v = 1; v <= 6; v++) {
                due.is("bound(" + i + ", " + v + ")", x.bound(i, v), true);
                due.is("it is " + v, x.holes(0, 1, 1), 8 * v);
            }
            x.bound(i, 2);
        }
        due.is("runs are not bound", x.run(0, 0x5555, 0, 1), 0);
        due.sentence("false, and nothing is done, if one can't be (bound)");
        refused("bound", FALSE, (book, a) -> number(book.bound(a[0], a[1])), new int[][] {
            {-1, 2}, {4, 2}, {LEAST, 2}, {MOST, 2}, {0, 0}, {0, 7}, {0, -1}, {3, 7}, {0, LEAST}, {0, MOST}, {-1, 7}});
    }

    private static void run() {
        due.sentence("A RUN of CODE k with SETTINGS (four bits each, that of 0 the lowest): its number.");
        TrialBook x = new TrialBook();
        Books.steps(x, 0, 0x20, 0x74, 0x21, 0x74, 0x22, 0x74, 0x23);
        due.is("run", x.run(0, 0x4321, 0, 1), 0);
        due.is("setting 0 first", x.of(0, 100), 0x1234);
        due.is("the least of all", x.run(0, 0x0000, 0, 1), 1);
        due.is("the most of all", x.run(3, 0x5555, 99, 16), 2);
    }

    private static void runRefused() {
        due.sentence("NONE, and nothing is done: something can't be (bits above 16, too)");
        Asking asking = (book, a) -> book.run(a[0], a[1], a[2], a[3]);
        refused("run", NONE, asking, new int[][] {
            {-1, 0, 0, 1}, {4, 0, 0, 1}, {LEAST, 0, 0, 1}, {MOST, 0, 0, 1}, {0, 0, -1, 1}, {0, 0, 100, 1}, {0, 0, LEAST, 1},
            {0, 0, MOST, 1}, {0, 0, 0, 0}, {0, 0, 0, 17}, {0, 0, 0, -1}, {0, 0, 0, LEAST}, {0, 0, 0, MOST},
            {0, 0x0006, 0, 1}, {0, 0x0060, 0, 1}, {0, 0x0600, 0, 1}, {0, 0x6000, 0, 1}, {0, 0x000F, 0, 1}, {0, 0x0008, 0, 1},
            {0, 0xF000, 0, 1}});
        for (int bit = 16; bit < 32; bit++) {
            refused("run", NONE, asking, new int[] {0, 1 << bit, 0, 1});
        }
        refused("run", NONE, asking, new int[][] {{0, -1, 0, 1}, {0, 0xFFFF0000, 0, 1}, {0, 0x15555, 0, 1}});
        due.sentence("or there are 40");
        TrialBook x = new TrialBook();
        for (int r = 0; r < 40; r++) {
            due.is("run", x.run(0, 0, 0, 1), r);
        }
        due.is("the 41st", x.run(0, 0, 0, 1), NONE);
        leavesAll(Books::full, "run", NONE, asking, new int[] {0, 0, 0, 1}, new int[] {3, 0x5555, 99, 16});
    }

    private static void fork() {
        due.sentence("A FORK of RUN r at tick t (0 .. how many ROWS it has): its number.");
        TrialBook x = new TrialBook();
        Books.steps(x, 0, 0x01, 0x20);
        x.run(0, 0x0000, 0, 3);
        int[][] want = {{6, 12, 18}, {1, 7, 13}, {1, 2, 8}, {1, 2, 3}};
        for (int t = 0; t <= 3; t++) {
            due.is("at " + t, x.fork(0, t, 0x0005, 0), 1 + t);
            due.is("the tick is told", x.of(1 + t, 7), t);
            for (int row = 0; row < 3; row++) {
                due.is("row " + row, x.of(1 + t, 100 + row), want[t][row]);
            }
        }
        due.is("at 4", x.fork(0, 4, 0x0005, 0), NONE);
        due.is("at -1", x.fork(0, -1, 0x0005, 0), NONE);
        due.is("all at the edge", x.fork(0, 0, 0x5555, 99), 5);
    }

    private static void forkRefused() {
        due.sentence("NONE, and nothing is done, likewise");
        Asking asking = (book, a) -> book.fork(a[0], a[1], a[2], a[3]);
        refused("fork", NONE, asking, new int[][] {
            {-1, 0, 0, 0}, {5, 0, 0, 0}, {LEAST, 0, 0, 0}, {MOST, 0, 0, 0}, {39, 0, 0, 0}, {40, 0, 0, 0},
            {0, -1, 0, 0}, {0, 3, 0, 0}, {0, LEAST, 0, 0}, {0, MOST, 0, 0}, {3, 4, 0, 0}, {4, 3, 0, 0},
            {0, 0, 0x0006, 0}, {0, 0, 0x6000, 0}, {0, 0, 0x10000, 0}, {0, 0, -1, 0}, {0, 0, LEAST, 0}, {0, 0, 0xFFFF0000, 0},
            {0, 0, 0, -1}, {0, 0, 0, 100}, {0, 0, 0, LEAST}, {0, 0, 0, MOST}});
        leavesAll(Books::full, "fork", NONE, asking, new int[] {0, 0, 0, 0}, new int[] {39, 1, 0, 0});
        due.is("without runs", new TrialBook().fork(0, 0, 0, 0), NONE);
        due.sentence("or if r is BROKEN");
        refused("fork", NONE, asking, new int[][] {{2, 0, 0, 0}, {2, 1, 0, 0}, {2, 2, 0, 0}, {2, 3, 0, 0}});
    }

    private static void of() {
        due.sentence("Of RUN r what 0 CODE, 1 SETTINGS, 2 SEED, 3 T, 4 how many ROWS, 5 1 if it is BROKEN, else 0, .. 12");
        int[][] want = {
            {0, 0x0000, 1, 2, 2, 0, NONE, NONE, 1, 3, 1, 0, 0},
            {0, 0x0001, 1, 2, 2, 0, NONE, NONE, 1, 3, 1, 0, 0},
            {1, 0x0000, 0, 4, 2, 1, NONE, NONE, 0, 0, 0, 0, 0},
            {2, 0x0000, 0, 3, 3, 0, NONE, NONE, 0, 0, 0, 1, 0},
            {0, 0x0001, 1, 2, 2, 0, 0, 1, 1, 3, 1, 0, 0}};
        TrialBook x = Books.sample();
        for (int r = 0; r < 5; r++) {
            for (int what = 0; what <= 12; what++) {
                due.is("of(" + r + ", " + what + ")", x.of(r, what), want[r][what]);
            }
        }
        x.data(1, 1);
        due.is("run 0 is stale", x.of(0, 12), 1);
        due.is("the fork is stale", x.of(4, 12), 1);
        due.is("run 2 is not", x.of(2, 12), 0);
        due.sentence("NONE if there is none such, or another what.");
        for (int r : new int[] {-1, 5, 39, 40, 41, LEAST, MOST}) {
            for (int what = 0; what <= 12; what++) {
                due.is("of(" + r + ", " + what + ")", x.of(r, what), NONE);
            }
            due.is("of(" + r + ", 100)", x.of(r, 100), NONE);
        }
        for (int what : new int[] {-1, -100, LEAST, 13, 14, 50, 98, 99, MOST}) {
            due.is("what " + what, x.of(3, what), NONE);
        }
    }

    private static void ofRows() {
        due.sentence("100 + t its ROW t");
        TrialBook x = new TrialBook();
        Books.steps(x, 0, 0x03);
        x.run(0, 0, 0, 16);
        x.run(0, 0, 0, 1);
        Books.steps(x, 0, 0x90);
        x.run(0, 0, 0, 16);
        due.is("row 0", x.of(0, 100), 3);
        due.is("row 15", x.of(0, 115), 48);
        due.is("row 16", x.of(0, 116), NONE);
        due.is("row -1", x.of(0, 99), NONE);
        due.is("row 0 of one", x.of(1, 100), 3);
        due.is("row 1 of one", x.of(1, 101), NONE);
        due.is("row 15 of one", x.of(1, 115), NONE);
        due.is("row 0 of none", x.of(2, 100), NONE);
        due.is("row most", x.of(0, MOST), NONE);
    }

    private static void clock() {
        due.sentence("THE CLOCK.");
        TrialBook x = new TrialBook();
        due.is("without runs", x.clock(), 0);
        x.run(0, 0, 0, 16);
        due.is("a run, whatever its ticks", x.clock(), 1);
        TrialBook y = Books.full();
        due.is("40 runs", y.clock(), 40);
        y.run(0, 0, 0, 1);
        y.fork(0, 0, 0, 0);
        y.again(40);
        due.is("what is refused takes no time", y.clock(), 40);
        y.again(39);
        due.is("repeats go on in a full book", y.clock(), 41);
    }

    private static void runs() {
        due.sentence("How many RUNS there are.");
        TrialBook x = new TrialBook();
        due.is("none", x.runs(), 0);
        x.run(0, 0, 0, 0);
        due.is("none by a refused one", x.runs(), 0);
        x.run(0, 0, 0, 1);
        due.is("one", x.runs(), 1);
        TrialBook y = Books.full();
        due.is("40", y.runs(), 40);
        y.run(0, 0, 0, 1);
        y.again(0);
        due.is("no more", y.runs(), 40);
    }

    private static void again() {
        due.sentence("RUN r is DONE AGAIN: the first tick whose ROW is another one");
        TrialBook x = new TrialBook();
        Books.steps(x, 0, 0x50);
        x.run(0, 0, 0, 8);
        for (int t = 0; t < 8; t++) {
            x.data(t, 1);
            due.is("word " + t, x.again(0), t);
            x.data(t, 0);
        }
        due.sentence("T if all are the same");
        due.is("8", x.again(0), 8);
        x.run(0, 0, 0, 1);
        due.is("1", x.again(1), 1);
        x.run(0, 0, 0, 16);
        due.is("16", x.again(2), 16);
        Books.steps(x, 0, 0x90);
        x.run(0, 0, 0, 16);
        due.is("without rows, then and now", x.again(3), 16);
        due.is("the clock", x.clock(), 16);
        due.sentence("or is there in the one alone");
        Books.steps(x, 0, 0x01, 0x50, 0x91);
        x.data(1, 1);
        // 1, then 1 more and word 1.
        x.run(0, 0, 0, 2);
        due.is("not broken", x.of(4, 4), 2);
        x.data(1, 0);
        due.is("row 1 is there in the run alone", x.again(4), 1);
        x.run(0, 0, 0, 2);
        due.is("broken", x.of(5, 4), 1);
        x.data(1, 1);
        due.is("row 1 is there in the repeat alone", x.again(5), 1);
        x.data(0, 1);
        due.is("row 0 is there in the run alone", x.again(4), 0);
        due.is("what was is as it was", x.of(4, 4), 2);
        due.sentence("NONE if there is none such. (again)");
        refused("again", NONE, (book, a) -> book.again(a[0]), new int[][] {{-1}, {5}, {40}, {LEAST}, {MOST}});
        due.is("without runs", new TrialBook().again(0), NONE);
    }

    private static void loose() {
        due.sentence("What is LOOSE of RUN r");
        TrialBook x = Books.sample();
        x.data(0, 6);
        x.data(1, 6);
        x.data(2, 6);
        int[] want = {3, 3, 0, 256, 3};
        for (int r = 0; r < 5; r++) {
            due.is("run " + r, x.loose(r), want[r]);
        }
        due.sentence("NONE if there is none such. (loose)");
        refused("loose", NONE, (book, a) -> book.loose(a[0]), new int[][] {{-1}, {5}, {40}, {LEAST}, {MOST}});
        due.is("without runs", new TrialBook().loose(0), NONE);
    }

    private static void saved() {
        due.sentence("SAVED; NONE if there is none, or something can't be.");
        TrialBook x = new TrialBook();
        due.is("without runs", x.saved(0, 0, 0, 1), NONE);
        x.run(0, 0, 0, 16);
        due.is("all at the upper edge", x.saved(3, 0x5555, 99, 16), 0);
        due.is("all at the lower edge", x.saved(0, 0x0000, 0, 1), 0);
        // Code 3 of this book has no steps, so that one run would do for whatever can be.
        int[][] bad = {
            {-1, 0, 0, 1}, {4, 0, 0, 1}, {LEAST, 0, 0, 1}, {MOST, 0, 0, 1}, {0, 6, 0, 1}, {0, 0x60, 0, 1}, {0, 0x600, 0, 1},
            {0, 0x6000, 0, 1}, {0, 0x10000, 0, 1}, {0, -1, 0, 1}, {0, LEAST, 0, 1}, {0, 0, -1, 1}, {0, 0, 100, 1},
            {0, 0, LEAST, 1}, {0, 0, MOST, 1}, {0, 0, 0, 0}, {0, 0, 0, 17}, {0, 0, 0, -1}, {0, 0, 0, LEAST}, {0, 0, 0, MOST}};
        for (int[] a : bad) {
            due.is("saved" + Arrays.toString(a), x.saved(a[0], a[1], a[2], a[3]), NONE);
        }
        TrialBook y = Books.full();
        due.is("the least of 40", y.saved(0, 0, 0, 1), 0);
        Books.steps(y, 0, 0x0E);
        due.is("none of 40", y.saved(0, 0, 0, 1), NONE);
    }

    /** A book with one pair by each setting, of values 0 and 5, won, of one tick and of 16. */
    private static TrialBook withPairs() {
        TrialBook x = new TrialBook();
        Books.steps(x, 0, 0x20, 0x21, 0x22, 0x23);
        for (int ticks = 1; ticks <= 16; ticks += 15) {
            x.run(0, 0x0000, 0, ticks);
            for (int i = 0; i < 4; i++) {
                x.run(0, 5 << 4 * i, 0, ticks);
            }
        }
        return x;
    }

    private static void pairs() {
        due.sentence("The PAIRS: what 0 how many, 1 how many of them WIN, 2 LOSE.");
        TrialBook x = withPairs();
        for (int i = 0; i < 4; i++) {
            for (int ticks = 1; ticks <= 16; ticks += 15) {
                due.is("all by " + i, x.pairs(i, 0, 5, ticks, 0), 1);
                due.is("won by " + i, x.pairs(i, 0, 5, ticks, 1), 1);
                due.is("lost by " + i, x.pairs(i, 0, 5, ticks, 2), 0);
                due.is("all by " + i + " the other way", x.pairs(i, 5, 0, ticks, 0), 1);
                due.is("won by " + i + " the other way", x.pairs(i, 5, 0, ticks, 1), 0);
                due.is("lost by " + i + " the other way", x.pairs(i, 5, 0, ticks, 2), 1);
            }
        }
        due.is("none of other values", x.pairs(0, 0, 1, 1, 0), 0);
        due.is("none of other ticks", x.pairs(0, 0, 5, 2, 0), 0);
        due.is("without runs", new TrialBook().pairs(0, 0, 1, 1, 0), 0);
        due.sentence("NONE if one can't be (u is v, too), or another what.");
        int[][] bad = {
            {-1, 0, 5, 1, 0}, {4, 0, 5, 1, 0}, {LEAST, 0, 5, 1, 0}, {MOST, 0, 5, 1, 0}, {0, -1, 5, 1, 0}, {0, 6, 5, 1, 0},
            {0, LEAST, 5, 1, 0}, {0, MOST, 5, 1, 0}, {0, 0, -1, 1, 0}, {0, 0, 6, 1, 0}, {0, 0, LEAST, 1, 0},
            {0, 0, MOST, 1, 0}, {0, 0, 0, 1, 0}, {0, 5, 5, 1, 0}, {0, 0, 5, 0, 0}, {0, 0, 5, 17, 0}, {0, 0, 5, -1, 0},
            {0, 0, 5, LEAST, 0}, {0, 0, 5, MOST, 0}, {0, 0, 5, 1, -1}, {0, 0, 5, 1, 3}, {0, 0, 5, 1, LEAST},
            {0, 0, 5, 1, MOST}};
        for (int[] a : bad) {
            due.is("pairs" + Arrays.toString(a), x.pairs(a[0], a[1], a[2], a[3], a[4]), NONE);
        }
    }

    private static void pair() {
        due.sentence("The k-th PAIR: what 0 p, 1 q.");
        TrialBook x = withPairs();
        for (int i = 0; i < 4; i++) {
            due.is("p by " + i, x.pair(i, 0, 5, 1, 0, 0), 0);
            due.is("q by " + i, x.pair(i, 0, 5, 1, 0, 1), 1 + i);
            due.is("p by " + i + " the other way", x.pair(i, 5, 0, 16, 0, 0), 6 + i);
            due.is("q by " + i + " the other way", x.pair(i, 5, 0, 16, 0, 1), 5);
        }
        due.sentence("NONE likewise, or if there is none such.");
        int[][] bad = {
            {0, 0, 5, 1, 1, 0}, {0, 0, 5, 1, -1, 0}, {0, 0, 5, 1, LEAST, 0}, {0, 0, 5, 1, MOST, 0}, {0, 0, 1, 1, 0, 0},
            {0, 0, 5, 2, 0, 0}, {-1, 0, 5, 1, 0, 0}, {4, 0, 5, 1, 0, 0}, {0, -1, 5, 1, 0, 0}, {0, 6, 5, 1, 0, 0},
            {0, 0, -1, 1, 0, 0}, {0, 0, 6, 1, 0, 0}, {0, 0, 0, 1, 0, 0}, {0, 0, 5, 0, 0, 0}, {0, 0, 5, 17, 0, 0},
            {0, 0, 5, 1, 0, -1}, {0, 0, 5, 1, 0, 2}, {0, 0, 5, 1, 0, LEAST}, {0, 0, 5, 1, 0, MOST}};
        for (int[] a : bad) {
            due.is("pair" + Arrays.toString(a), x.pair(a[0], a[1], a[2], a[3], a[4], a[5]), NONE);
        }
        due.is("without runs", new TrialBook().pair(0, 0, 1, 1, 0, 0), NONE);
    }

    private static void sure() {
        due.sentence("Whether v is SURE to be better than u: 1, 0");
        TrialBook x = withPairs();
        due.is("at 2", x.sure(0, 0, 5, 1, 1, 2), 1);
        due.is("at 3", x.sure(0, 0, 5, 1, 1, 3), 0);
        due.is("u is not better than v", x.sure(0, 5, 0, 1, 1, 2), 0);
        due.is("at 1 all is sure", x.sure(0, 5, 0, 1, 1, 1), 1);
        due.is("without pairs at 1", x.sure(0, 1, 2, 1, 1, 1), 1);
        due.is("without pairs at 2", x.sure(0, 1, 2, 1, 1, 2), 0);
        due.is("setting 3, 16 ticks", x.sure(3, 0, 5, 16, 2, 1), 1);
        due.sentence("NONE if one can't be, or n is above 30.");
        int[][] bad = {
            {-1, 0, 5, 1, 1, 1}, {4, 0, 5, 1, 1, 1}, {0, -1, 5, 1, 1, 1}, {0, 6, 5, 1, 1, 1}, {0, 0, -1, 1, 1, 1},
            {0, 0, 6, 1, 1, 1}, {0, 0, 0, 1, 1, 1}, {0, 0, 5, 0, 1, 1}, {0, 0, 5, 17, 1, 1}, {0, 0, 5, 1, 0, 1},
            {0, 0, 5, 1, 1001, 1}, {0, 0, 5, 1, -1, 1}, {0, 0, 5, 1, 1, 0}, {0, 0, 5, 1, 1, 1000001}, {0, 0, 5, 1, 1, -1},
            {0, 0, 5, 1, -1, -1}, {0, 0, 5, 1, LEAST, 1}, {0, 0, 5, 1, MOST, 1}, {0, 0, 5, 1, 1, LEAST},
            {0, 0, 5, 1, 1, MOST}};
        for (int[] a : bad) {
            due.is("sure" + Arrays.toString(a), x.sure(a[0], a[1], a[2], a[3], a[4], a[5]), NONE);
        }
        due.is("30", Books.withMany(30, 0, false).sure(0, 0, 1, 1, 1, 1), 1);
        due.is("31", Books.withMany(31, 0, false).sure(0, 0, 1, 1, 1, 1), NONE);
        due.is("39, the most that can be won by one run", Books.withMany(39, 0, false).sure(0, 1, 0, 1, 1, 1), NONE);
    }

    private static void best() {
        due.sentence("that is SURE to be better than each other one below it, at 1 in R, among as many comparisons "
            + "as there are of two of these values (each way)");
        TrialBook x = new TrialBook();
        Books.steps(x, 0, 0x23);
        for (int seed = 0; seed < 6; seed++) {
            for (int value = 0; value < 6; value++) {
                x.run(0, value << 12, seed, 1);
            }
        }
        // 6 signs each, so comparisons times R are 64 at most: 2, 6, 12, 20 and 30 comparisons.
        int[] odds = {0, 0, 32, 10, 5, 3, 2};
        for (int bound = 2; bound <= 6; bound++) {
            x.bound(3, bound);
            due.is("the last of " + bound, x.best(3, 1, odds[bound]), bound - 1);
            due.is("not at one more", x.best(3, 1, odds[bound] + 1), NONE);
            due.is("at 1", x.best(3, 1, 1), bound - 1);
        }
        TrialBook y = Books.withMany(30, 0, false);
        due.is("30 signs at 1000000", y.best(0, 1, 1000000), 1);
        TrialBook z = new TrialBook();
        Books.steps(z, 0, 0x30, 0x01);
        z.run(0, 0, 0, 1);
        z.run(0, 1, 0, 1);
        due.is("0 can be the best", z.best(0, 1, 1), 0);
        due.is("one sign is sure at 1 alone", z.best(0, 1, 2), NONE);
        due.sentence("The value of SETTING i (below its BOUND)");
        z.run(0, 2, 0, 1);
        due.is("a value that is not below is nothing", z.best(0, 1, 1), 0);
        z.bound(0, 3);
        due.is("below it, it is one more to be better than", z.best(0, 1, 1), NONE);
    }

    private static void bestNone() {
        due.sentence("NONE: there is none, BOUND 1, or one can't be.");
        TrialBook x = Books.withMany(10, 0, false);
        due.is("there is one", x.best(0, 1, 1), 1);
        due.is("at 512", x.best(0, 1, 512), 1);
        due.is("at 513 there is none", x.best(0, 1, 513), NONE);
        due.is("of 2 ticks there is none", x.best(0, 2, 1), NONE);
        due.is("of setting 1 there is none", x.best(1, 1, 1), NONE);
        x.bound(0, 1);
        due.is("bound 1", x.best(0, 1, 1), NONE);
        x.bound(0, 3);
        due.is("a value without runs", x.best(0, 1, 1), NONE);
        x.bound(0, 2);
        int[][] bad = {
            {-1, 1, 1}, {4, 1, 1}, {LEAST, 1, 1}, {MOST, 1, 1}, {0, 0, 1}, {0, 17, 1}, {0, -1, 1}, {0, LEAST, 1}, {0, MOST, 1},
            {0, 1, 0}, {0, 1, -1}, {0, 1, 1000001}, {0, 1, LEAST}, {0, 1, MOST}};
        for (int[] a : bad) {
            due.is("best" + Arrays.toString(a), x.best(a[0], a[1], a[2]), NONE);
        }
        due.is("31 signs are not told", Books.withMany(31, 0, false).best(0, 1, 1), NONE);
        due.is("without runs", new TrialBook().best(0, 1, 1), NONE);
        TrialBook ties = new TrialBook();
        ties.run(0, 0, 0, 1);
        ties.run(0, 1, 0, 1);
        due.is("ties", ties.best(0, 1, 1), NONE);
    }

    private static void holes() {
        due.sentence("How many HOLES there are");
        TrialBook x = new TrialBook();
        due.is("the least s", x.holes(0, 1, 1), 16);
        due.is("the greatest s", x.holes(3, 16, 8), 128);
        for (int i = 0; i < 4; i++) {
            x.bound(i, 6);
        }
        due.is("all that can be", x.holes(0, 1, 8), 10368);
        x.run(0, 0, 0, 15);
        due.is("none", x.holes(3, 15, 8), 0);
        due.is("a tick more", x.holes(3, 16, 8), 10368);
        Books.steps(x, 1, 0x20, 0x21, 0x22, 0x23, 0x40);
        x.run(1, 0x5555, 7, 1);
        due.is("the last is filled", x.holes(1, 1, 8), 10367);
        x.run(1, 0x0000, 0, 1);
        due.is("the first is filled", x.holes(1, 1, 8), 10366);
        x.run(1, 0x0001, 8, 1);
        due.is("seed 8 is not there", x.holes(1, 1, 8), 10366);
        x.bound(0, 5);
        due.is("what is not below a bound fills none", x.holes(1, 1, 8), 8640 - 1);
        TrialBook y = new TrialBook();
        Books.steps(y, 0, 0x20, 0x21, 0x22, 0x40);
        for (int r = 0; r < 40; r++) {
            y.run(0, r % 2 + 16 * (r / 2 % 2) + 256 * (r / 4 % 2), r / 8, 1);
        }
        due.is("40 runs that fill two holes each", y.holes(0, 1, 8), 128 - 80);
        due.sentence("NONE if something can't be (s 1 .. 8).");
        int[][] bad = {
            {0, 1, 0}, {0, 1, 9}, {0, 1, -1}, {0, 1, LEAST}, {0, 1, MOST}, {0, 1, 32}, {0, 1, 33}, {-1, 1, 1}, {4, 1, 1},
            {LEAST, 1, 1}, {MOST, 1, 1}, {0, 0, 1}, {0, 17, 1}, {0, -1, 1}, {0, LEAST, 1}, {0, MOST, 1}};
        for (int[] a : bad) {
            due.is("holes" + Arrays.toString(a), x.holes(a[0], a[1], a[2]), NONE);
        }
    }

    private static void hole() {
        due.sentence("The j-th HOLE: what 0 its SETTINGS, 1 its SEED.");
        TrialBook x = new TrialBook();
        due.is("settings of the first", x.hole(0, 1, 8, 0, 0), 0x0000);
        due.is("seed of the first", x.hole(0, 1, 8, 0, 1), 0);
        due.is("seed of the eighth", x.hole(0, 1, 8, 7, 1), 7);
        due.is("settings of the ninth", x.hole(0, 1, 8, 8, 0), 0x1000);
        due.is("settings of the last", x.hole(3, 16, 8, 127, 0), 0x1111);
        due.is("seed of the last", x.hole(3, 16, 8, 127, 1), 7);
        for (int i = 0; i < 4; i++) {
            x.bound(i, 6);
        }
        due.is("settings of the last of all that can be", x.hole(0, 1, 8, 10367, 0), 0x5555);
        due.is("its seed", x.hole(0, 1, 8, 10367, 1), 7);
        due.is("behind it", x.hole(0, 1, 8, 10368, 0), NONE);
        for (int i = 0; i < 4; i++) {
            x.bound(i, 2);
        }
        Books.steps(x, 0, 0x20, 0x40);
        x.run(0, 0x0000, 0, 1);
        due.is("behind a filled seed: settings", x.hole(0, 1, 2, 0, 0), 0x0000);
        due.is("behind a filled seed: seed", x.hole(0, 1, 2, 0, 1), 1);
        due.is("with one seed: settings", x.hole(0, 1, 1, 0, 0), 0x0001);
        due.sentence("NONE if there is none such, or another what. (hole)");
        due.is("behind the last", x.hole(0, 1, 1, 8, 0), NONE);
        due.is("behind the last of 8 seeds", x.hole(3, 16, 8, 128, 1), NONE);
        int[][] bad = {
            {0, 1, 1, -1, 0}, {0, 1, 1, LEAST, 0}, {0, 1, 1, MOST, 0}, {0, 1, 1, 0, -1}, {0, 1, 1, 0, 2}, {0, 1, 1, 0, LEAST},
            {0, 1, 1, 0, MOST}, {-1, 1, 1, 0, 0}, {4, 1, 1, 0, 0}, {LEAST, 1, 1, 0, 0}, {MOST, 1, 1, 0, 0}, {0, 0, 1, 0, 0},
            {0, 17, 1, 0, 0}, {0, LEAST, 1, 0, 0}, {0, MOST, 1, 0, 0}, {0, 1, 0, 0, 0}, {0, 1, 9, 0, 0}, {0, 1, -1, 0, 0},
            {0, 1, LEAST, 0, 0}, {0, 1, MOST, 0, 0}};
        for (int[] a : bad) {
            due.is("hole" + Arrays.toString(a), x.hole(a[0], a[1], a[2], a[3], a[4]), NONE);
        }
        x.run(3, 0, 0, 1);
        due.is("all are filled", x.hole(3, 1, 8, 0, 0), NONE);
    }

    private static void idle() {
        due.sentence("The IDLE SETTINGS, as a set (all, without RUNS).");
        TrialBook x = new TrialBook();
        due.is("without runs", x.idle(), 15);
        Books.steps(x, 0, 0x20, 0x21, 0x22, 0x23);
        x.run(0, 0, 0, 17);
        due.is("a refused run", x.idle(), 15);
        x.run(1, 0, 0, 1);
        due.is("a run that read none", x.idle(), 15);
        x.run(0, 0, 0, 1);
        due.is("none is idle", x.idle(), 0);
        due.is("40 runs that read none", Books.full().idle(), 15);
        TrialBook y = new TrialBook();
        for (int r = 0; r < 39; r++) {
            y.run(1, 0, 0, 1);
        }
        Books.steps(y, 0, 0x33);
        y.run(0, 0, 0, 1);
        due.is("the 40th read 3", y.idle(), 7);
    }

    private static void claim() {
        due.sentence("A CLAIM of RUN r: its number.");
        TrialBook x = Books.sample();
        due.is("the next", x.claim(3), 2);
        due.is("the same run once more", x.claim(3), 3);
        due.is("the last row of 3 ticks at clock 4", x.claimed(3, 1), 12);
        TrialBook y = Books.full();
        due.is("the 40th run", y.claim(39), 0);
        due.is("told", y.claimed(0, 0), 39);
        due.sentence("NONE, and nothing is done: none such, BROKEN, or there are 20");
        refused("claim", NONE, (book, a) -> book.claim(a[0]), new int[][] {{-1}, {5}, {40}, {LEAST}, {MOST}, {2}});
        due.is("without runs", new TrialBook().claim(0), NONE);
        for (int i = 1; i < 20; i++) {
            due.is("claim " + i, y.claim(i), i);
        }
        due.is("the 21st", y.claim(20), NONE);
        for (int i = 0; i < 20; i++) {
            due.is("run of " + i, y.claimed(i, 0), i == 0 ? 39 : i);
        }
        due.is("no 21st", y.claimed(20, 0), NONE);
        due.is("a refused claim takes no number", afterRefusedClaim(), 0);
    }

    private static int afterRefusedClaim() {
        TrialBook x = new TrialBook();
        x.claim(0);
        Books.steps(x, 0, 0x90);
        x.run(0, 0, 0, 1);
        x.claim(0);
        x.run(1, 0, 0, 1);
        return x.claim(1);
    }

    private static void claimed() {
        due.sentence("Of CLAIM i what 0 its RUN, 1 the ROW, 2 1 if it is STALE, else 0.");
        TrialBook x = Books.sample();
        due.is("run of 0", x.claimed(0, 0), 0);
        due.is("row of 0", x.claimed(0, 1), 7);
        due.is("0 is not stale", x.claimed(0, 2), 0);
        due.is("run of 1", x.claimed(1, 0), 4);
        due.is("row of 1", x.claimed(1, 1), 6);
        x.data(2, 1);
        due.is("a word that it did not read", x.claimed(1, 2), 0);
        x.data(1, 1);
        due.is("0 is stale", x.claimed(0, 2), 1);
        due.is("1, a fork, is stale", x.claimed(1, 2), 1);
        x.data(1, 0);
        due.is("0 is no longer", x.claimed(0, 2), 0);
        due.sentence("NONE if there is none such, or another what. (claimed)");
        int[][] bad = {
            {-1, 0}, {2, 0}, {19, 0}, {20, 0}, {LEAST, 0}, {MOST, 0}, {0, -1}, {0, 3}, {0, LEAST}, {0, MOST}, {1, 100}};
        for (int[] a : bad) {
            due.is("claimed" + Arrays.toString(a), x.claimed(a[0], a[1]), NONE);
        }
        due.is("without claims", new TrialBook().claimed(0, 0), NONE);
    }

    private static void questions() {
        due.sentence("Nothing is promised beyond the answers and state changes described above");
        answers("clock", 5, book -> book.clock());
        answers("runs", 5, book -> book.runs());
        answers("idle", 14, book -> book.idle());
        answers("of", 7, book -> book.of(0, 101));
        answers("loose", 256, book -> book.loose(3));
        answers("saved", 1, book -> book.saved(0, 0x0001, 1, 2));
        answers("pairs", 1, book -> book.pairs(0, 0, 1, 2, 0));
        answers("pair", 1, book -> book.pair(0, 0, 1, 2, 0, 1));
        answers("sure", 1, book -> book.sure(0, 0, 1, 2, 1, 1));
        answers("best", NONE, book -> book.best(0, 2, 1));
        answers("holes", 16, book -> book.holes(0, 2, 2));
        answers("hole", 1, book -> book.hole(0, 2, 2, 9, 1));
        answers("claimed", 4, book -> book.claimed(1, 0));
    }
}
