/** The promises one by one, with answers worked out by hand from the document. */
public final class PromisesTest {
    private static final int NONE = TrialBook.NONE;
    private static final int MOST = Integer.MAX_VALUE;
    private static final int LEAST = Integer.MIN_VALUE;
    private static int promise;
    private static int wrong;

    private static void due(String call, int got, int want) {
        if (got != want) {
            wrong++;
            System.out.println("promise " + promise + ": " + call + " answered " + got + ", due is " + want);
        }
    }

    private static void due(String call, boolean got, boolean want) {
        due(call, got ? 1 : 0, want ? 1 : 0);
    }

    public static void main(String[] args) {
        promise = 1; newObject();
        promise = 2; code(); codeAsItWas();
        promise = 3; data();
        promise = 4; bound();
        promise = 5; kinds(); runRefused(); runFull(); breaking(); leavingOut();
        promise = 6; fork(); forkReads(); forkRefused();
        promise = 7; of();
        promise = 8; clock();
        promise = 9; runs();
        promise = 10; again(); againBroken(); againFork();
        promise = 11; loose();
        promise = 12; saved(); savedRefused();
        promise = 13; pairs(); counting(); pairsByData();
        promise = 14; pair();
        promise = 15; sure(); sureWithTies(); sureAtThirty();
        promise = 16; best(); bestOfThree(); bestBesideTooMany();
        promise = 17; holes();
        promise = 18; hole();
        promise = 19; idle();
        promise = 20; claim();
        promise = 21; claimed();
        System.out.println(wrong == 0 ? "all answers are as due" : wrong + " answers are not as due");
        if (wrong != 0) {
            System.exit(1);
        }
    }

    private static void newObject() {
        TrialBook x = new TrialBook();
        due("NONE", TrialBook.NONE, -1);
        due("runs()", x.runs(), 0);
        due("clock()", x.clock(), 0);
        due("idle()", x.idle(), 15);
        due("claimed(0, 0)", x.claimed(0, 0), NONE);
        due("holes by bounds of 2", x.holes(0, 1, 1), 16);
        for (int k = 0; k < 4; k++) {
            int r = x.run(k, 0, 5, 2);
            due("a code without steps", x.of(r, 101), 0);
            due("how many rows", x.of(r, 4), 2);
        }
        x.code(0, 8, 0x50515253, 0x54555657);
        int r = x.run(0, 0, 0, 16);
        due("sum of data", x.of(r, 115), 0);
        due("all words read", x.of(r, 9), 255);
        TrialBook other = new TrialBook();
        due("another object has no runs", other.runs(), 0);
    }

    private static void code() {
        TrialBook x = new TrialBook();
        due("code(-1, ..)", x.code(-1, 1, 0, 0), false);
        due("code(4, ..)", x.code(4, 1, 0, 0), false);
        due("n -1", x.code(0, -1, 0, 0), false);
        due("n 9", x.code(0, 9, 0, 0), false);
        due("n most", x.code(0, MOST, 0, 0), false);
        due("n least", x.code(0, LEAST, 0, 0), false);
        due("k most", x.code(MOST, 1, 0, 0), false);
        due("n 8", x.code(3, 8, 0x01120312, 0x05120712), true);
        // ((((0 + 1) * 2 + 3) * 2 + 5) * 2 + 7) * 2
        due("eight steps in order", x.of(x.run(3, 0, 0, 1), 100), 74);
        due("n 5", x.code(3, 5, 0x01120312, 0x05120712), true);
        due("five steps of these", x.of(x.run(3, 0, 0, 1), 100), 15);
        due("n 1", x.code(3, 1, 0x0F0F0F0F, 0x0F0F0F0F), true);
        due("one step of these", x.of(x.run(3, 0, 0, 1), 100), 15);
        due("refused", x.code(3, 9, 0, 0), false);
        due("nothing was done", x.of(x.run(3, 0, 0, 1), 100), 15);
        due("n 0", x.code(3, 0, -1, -1), true);
        due("no step", x.of(x.run(3, 0, 0, 1), 100), 0);
        due("n 8 once more", x.code(0, 8, 0, 0x0000000F), true);
        due("the last byte of b", x.of(x.run(0, 0, 0, 1), 100), 15);
        due("negative a", x.code(0, 2, 0xF1050000, -1), true);
        due("kind 15 does nothing", x.of(x.run(0, 0, 0, 1), 100), 5);
    }

    private static void codeAsItWas() {
        TrialBook x = new TrialBook();
        x.code(0, 1, 0x03000000, 0);
        x.run(0, 0, 0, 2);
        due("not stale", x.of(0, 12), 0);
        x.code(0, 1, 0x03FFFFFF, -1);
        due("bytes behind n are no steps", x.of(0, 12), 0);
        due("saved likewise", x.saved(0, 0, 0, 2), 0);
        x.code(0, 2, 0x03000000, 0);
        due("one step more is another code", x.of(0, 12), 1);
        due("not saved", x.saved(0, 0, 0, 2), NONE);
        x.code(1, 1, 0x03000000, 0);
        due("it is its own code that counts", x.of(0, 12), 1);
        x.code(0, 1, 0x03000000, 0);
        due("changed back", x.of(0, 12), 0);
        x.code(0, 8, 0x03A0A0A0, 0xA0A0A0A0);
        x.run(0, 0, 0, 1);
        x.code(0, 8, 0x03A0A0A0, 0xA0A0A0A1);
        due("the last byte counts", x.of(1, 12), 1);
    }

    private static void data() {
        TrialBook x = new TrialBook();
        due("data(-1)", x.data(-1, 5), false);
        due("data(8)", x.data(8, 5), false);
        due("data(most)", x.data(MOST, 5), false);
        due("data(least)", x.data(LEAST, 5), false);
        x.code(0, 1, 0x50000000, 0);
        for (int i = 0; i < 8; i++) {
            due("data(" + i + ")", x.data(i, 1 << (3 * i)), true);
        }
        x.run(0, 0, 0, 16);
        due("word 0", x.of(0, 100), 1);
        due("word 0 and 1", x.of(0, 101), 011);
        due("all words", x.of(0, 107), 011111111);
        due("word 0 again", x.of(0, 108), 011111112);
        due("data(7, least)", x.data(7, LEAST), true);
        x.code(0, 1, 0x57000000, 0);
        due("word 7 first", x.of(x.run(0, 0, 0, 2), 100), LEAST);
        due("then word 0", x.of(1, 101), LEAST + 1);
    }

    private static void bound() {
        TrialBook x = new TrialBook();
        due("bound(-1, 2)", x.bound(-1, 2), false);
        due("bound(4, 2)", x.bound(4, 2), false);
        due("bound(most, 2)", x.bound(MOST, 2), false);
        due("bound(0, 0)", x.bound(0, 0), false);
        due("bound(0, 7)", x.bound(0, 7), false);
        due("bound(0, -1)", x.bound(0, -1), false);
        due("nothing was done", x.holes(0, 1, 1), 16);
        due("bound(0, 1)", x.bound(0, 1), true);
        due("bound(3, 6)", x.bound(3, 6), true);
        due("1 * 2 * 2 * 6", x.holes(0, 1, 1), 24);
        due("bound(1, 3)", x.bound(1, 3), true);
        due("1 * 3 * 2 * 6", x.holes(0, 1, 1), 36);
        due("bounds do not bind runs", x.run(0, 0x0005, 0, 1), 0);
    }

    /** The last row of one run of these steps. */
    private static int end(TrialBook x, int n, int a, int settings, int seed, int ticks) {
        x.code(0, n, a, 0);
        int r = x.run(0, settings, seed, ticks);
        return x.of(r, 99 + ticks);
    }

    private static void kinds() {
        TrialBook x = new TrialBook();
        due("kind 0", end(x, 1, 0x0F000000, 0, 0, 3), 45);
        due("kind 1", end(x, 2, 0x011F0000, 0, 0, 2), 240);
        due("kind 1 by 0", end(x, 2, 0x07100000, 0, 0, 2), 0);
        due("kind 2, setting 0", end(x, 1, 0x20000000, 0x5432, 0, 1), 2);
        due("kind 2, setting 3", end(x, 1, 0x23000000, 0x5432, 0, 1), 5);
        due("kind 2, o 6 is setting 2", end(x, 1, 0x26000000, 0x5432, 0, 1), 4);
        due("kind 2, o 13 is setting 1", end(x, 1, 0x2D000000, 0x5432, 0, 1), 3);
        due("kind 4", end(x, 1, 0x40000000, 0, 99, 1), 99);
        due("kind 4 times 16", end(x, 2, 0x074F0000, 0, 99, 1), 7 ^ 1584);
        due("kind 4 twice", end(x, 1, 0x43000000, 0, 99, 2), 0);
        due("kind 7 by 0", end(x, 2, 0x05700000, 0, 0, 1), 5);
        due("kind 7 by 4", end(x, 2, 0x05740000, 0, 0, 1), 80);
        // Behind tick 0 it is 15 times 2 to the 15; 15 more, and its high bits come in below.
        due("kind 7 by 15", end(x, 2, 0x0F7F0000, 0, 0, 1), 15 << 15);
        due("kind 7 turns round", end(x, 2, 0x0F7F0000, 0, 0, 2), 0xC0078003);
        due("kind 7 to the sign", end(x, 2, 0x0F7E0000, 0, 0, 2), 0xF003C000);
        due("kind 8", end(x, 2, 0x0F820000, 0, 0, 1), 3);
        due("kind 8 by 2", end(x, 2, 0x0F800000, 0, 0, 1), 1);
        due("kind 8 by 17", end(x, 2, 0x0F8F0000, 0, 0, 2), 13);
        x.data(0, -17);
        due("kind 8 with its sign", end(x, 2, 0x50830000, 0, 0, 1), -2);
        x.data(0, LEAST);
        due("kind 8 of the least int", end(x, 2, 0x50810000, 0, 0, 1), -2);
        x.data(0, MOST);
        due("ints wrap in sums", end(x, 2, 0x50010000, 0, 0, 1), LEAST);
        due("ints wrap in products", end(x, 2, 0x50120000, 0, 0, 1), -2);
        due("kinds 10 to 13", end(x, 4, 0xAFBFCFDF, 0x5555, 9, 3), 0);
        due("kinds 14, 15", end(x, 4, 0xEFFF01FF, 0x5555, 9, 3), 3);
        int last = x.runs() - 1;
        due("they read nothing", x.of(last, 8) + x.of(last, 9) + x.of(last, 10) + x.of(last, 11), 0);
    }

    private static void runRefused() {
        TrialBook x = new TrialBook();
        int[][] bad = {
            {-1, 0, 0, 1}, {4, 0, 0, 1}, {MOST, 0, 0, 1}, {LEAST, 0, 0, 1},
            {0, 6, 0, 1}, {0, 0x60, 0, 1}, {0, 0x600, 0, 1}, {0, 0x6000, 0, 1}, {0, 0xF, 0, 1},
            {0, 0x10000, 0, 1}, {0, -1, 0, 1}, {0, LEAST, 0, 1}, {0, 0xFFFF0000, 0, 1},
            {0, 0, -1, 1}, {0, 0, 100, 1}, {0, 0, MOST, 1},
            {0, 0, 0, 0}, {0, 0, 0, -1}, {0, 0, 0, 17}, {0, 0, 0, LEAST}};
        for (int[] b : bad) {
            due("run " + java.util.Arrays.toString(b), x.run(b[0], b[1], b[2], b[3]), NONE);
        }
        due("no runs", x.runs(), 0);
        due("no time", x.clock(), 0);
        due("all at the edge", x.run(3, 0x5555, 99, 16), 0);
        due("all at the other edge", x.run(0, 0, 0, 1), 1);
    }

    private static void runFull() {
        TrialBook x = new TrialBook();
        for (int r = 0; r < 40; r++) {
            due("run", r % 3 == 1 ? x.fork(r - 1, 0, 0, 0) : x.run(0, 0, 0, 1), r);
        }
        due("the 41st run", x.run(0, 0, 0, 1), NONE);
        due("the 41st as a fork", x.fork(0, 0, 0, 0), NONE);
        due("nothing was done", x.clock(), 40);
        due("40 runs", x.runs(), 40);
        due("repeats go on", x.again(39), 1);
        due("clock", x.clock(), 41);
    }

    private static void breaking() {
        TrialBook x = new TrialBook();
        x.code(0, 4, 0x01922040, 0);
        x.run(0, 0x0000, 1, 16);
        // 0 + 1 = 1; then 1 xor 1 = 0; it goes 0, 0, .. and never is 0 by 3 behind the sum.
        due("not broken", x.of(0, 5), 0);
        due("16 rows", x.of(0, 4), 16);
        x.code(0, 3, 0x01922000, 0);
        x.run(0, 0, 0, 16);
        due("broken at 3", x.of(1, 5), 1);
        due("rows ahead alone", x.of(1, 4), 2);
        due("its last row", x.of(1, 101), 2);
        due("no row there", x.of(1, 102), NONE);
        due("T stays", x.of(1, 3), 16);
        x.code(0, 4, 0x50900160, 0);
        x.run(0, 0, 0, 2);
        due("all is 0 by 1", x.of(2, 5), 1);
        due("no rows", x.of(2, 4), 0);
        due("read ahead of the break", x.of(2, 9), 1);
        due("not read behind it", x.of(2, 11), 0);
        x.code(0, 2, 0x019F0000, 0);
        x.run(0, 0, 0, 16);
        due("broken at 16", x.of(3, 4), 15);
        x.data(0, -3);
        x.code(0, 2, 0x50920000, 0);
        x.run(0, 0, 0, 1);
        due("below 0 too", x.of(4, 5), 1);
    }

    private static void leavingOut() {
        TrialBook x = new TrialBook();
        due("above 0", end(x, 3, 0x30010200, 1, 0, 1), 2);
        due("not above 0", end(x, 3, 0x30010200, 0, 0, 1), 3);
        due("setting 1 above 1", end(x, 3, 0x35010200, 0x20, 0, 1), 2);
        due("setting 1 at 1", end(x, 3, 0x35010200, 0x10, 0, 1), 3);
        due("setting 3 above 3", end(x, 3, 0x3F010200, 0x4000, 0, 1), 2);
        due("setting 3 at 3", end(x, 3, 0x3F010200, 0x3000, 0, 1), 3);
        due("it was read all the same", x.of(x.runs() - 1, 8), 8);
        due("at the end, the next tick is whole", end(x, 2, 0x01300000, 1, 0, 3), 3);
        due("what is left out leaves nothing out", end(x, 4, 0x30310102, 0x11, 0, 1), 3);
        due("and reads nothing", x.of(x.runs() - 1, 8), 1);
        due("a break left out", end(x, 3, 0x30900100, 1, 0, 2), 2);
        x.code(0, 6, 0x30402050, 0x30600000);
        x.run(0, 1, 1, 1);
        due("seed not read", x.of(x.runs() - 1, 10), 0);
        due("clock not read", x.of(x.runs() - 1, 11), 0);
        due("word read", x.of(x.runs() - 1, 9), 1);
    }

    private static void fork() {
        TrialBook x = new TrialBook();
        x.code(1, 2, 0x20400000, 0);
        x.run(1, 0x0003, 8, 4);
        // 3 ^ 8 = 11, 14 ^ 8 = 6, 9 ^ 8 = 1, 4 ^ 8 = 12
        due("its row 3", x.of(0, 103), 12);
        x.code(1, 1, 0x0F000000, 0);
        due("fork", x.fork(0, 2, 0x0005, 16), 1);
        due("row 0 is r's", x.of(1, 100), 11);
        due("row 1 is r's", x.of(1, 101), 6);
        due("row 2", x.of(1, 102), 27);
        due("row 3", x.of(1, 103), 48);
        due("code", x.of(1, 0), 1);
        due("settings", x.of(1, 1), 5);
        due("seed", x.of(1, 2), 16);
        due("T", x.of(1, 3), 4);
        due("rows", x.of(1, 4), 4);
        due("of which", x.of(1, 6), 0);
        due("at which tick", x.of(1, 7), 2);
        due("it has the code as it was, so it is stale", x.of(1, 12), 1);
        due("at tick 0", x.fork(0, 0, 0x0003, 8), 2);
        due("from 0 on", x.of(2, 103), 12);
        due("at tick 0 it is told", x.of(2, 7), 0);
        due("at its end", x.fork(0, 4, 0, 0), 3);
        due("all rows are r's", x.of(3, 103), 12);
        due("it takes its time", x.clock(), 4);
        due("a fork of a fork", x.fork(1, 3, 1, 1), 4);
        due("it comes of 1", x.of(4, 6), 1);
        due("row 2 of 1", x.of(4, 102), 27);
        due("28 ^ 1", x.of(4, 103), 29);
    }

    private static void forkReads() {
        TrialBook x = new TrialBook();
        x.data(0, 10);
        x.data(1, 20);
        // Setting 0 above 0 leaves setting 1 out.
        x.code(0, 3, 0x30215000, 0);
        x.run(0, 0x0000, 3, 3);
        due("settings 0 and 1", x.of(0, 8), 3);
        due("words 0 to 2", x.of(0, 9), 7);
        x.data(0, 11);
        x.data(1, 21);
        due("at tick 1", x.fork(0, 1, 0x0001, 3), 1);
        due("settings of both", x.of(1, 8), 3);
        due("words of both", x.of(1, 9), 7);
        due("rows 10, 31", x.of(1, 101), 31);
        due("word 0 as r read it, word 1 as it read it itself", x.loose(1), 1);
        due("stale by word 0", x.of(1, 12), 1);
        x.data(0, 10);
        due("word 0 changed back", x.of(1, 12), 0);
        due("r by word 1", x.loose(0), 2);
        x.data(1, 20);
        due("fork by word 1", x.loose(1), 2);
        x.code(2, 2, 0x60400000, 0);
        x.run(2, 0, 3, 2);
        x.fork(2, 2, 0, 0);
        due("seed of r", x.of(3, 10), 1);
        due("clock of r", x.of(3, 11), 1);
        x.fork(2, 1, 0, 0);
        // Runs 0 to 4 were begun at 1 to 5.
        due("3 ^ 3 at clock 3", x.of(2, 100), 0);
        due("a fork has its own clock", x.of(4, 101), 5);
        x.data(3, 7);
        x.code(3, 1, 0x50000000, 0);
        x.run(3, 0, 0, 5);
        x.data(3, 9);
        x.fork(5, 3, 0, 0);
        due("ticks go on, they do not begin anew", x.of(6, 103), 10 + 20 + 9);
    }

    private static void forkRefused() {
        TrialBook x = new TrialBook();
        due("no run", x.fork(0, 0, 0, 0), NONE);
        x.run(0, 0, 0, 3);
        int[][] bad = {
            {-1, 0, 0, 0}, {1, 0, 0, 0}, {MOST, 0, 0, 0}, {LEAST, 0, 0, 0},
            {0, -1, 0, 0}, {0, 4, 0, 0}, {0, MOST, 0, 0}, {0, LEAST, 0, 0},
            {0, 0, 6, 0}, {0, 0, 0x10000, 0}, {0, 0, -1, 0}, {0, 0, 0x7000, 0},
            {0, 0, 0, -1}, {0, 0, 0, 100}};
        for (int[] b : bad) {
            due("fork " + java.util.Arrays.toString(b), x.fork(b[0], b[1], b[2], b[3]), NONE);
        }
        x.code(0, 2, 0x01910000, 0);
        x.run(0, 0, 0, 3);
        due("broken", x.of(1, 4), 1);
        due("no fork of the broken at 0", x.fork(1, 0, 0, 0), NONE);
        due("no fork of the broken at 1", x.fork(1, 1, 0, 0), NONE);
        due("nothing was done", x.clock(), 2);
        due("two runs", x.runs(), 2);
        x.code(0, 3, 0x30900100, 0);
        x.run(0, 1, 0, 4);
        due("a fork may break", x.fork(2, 2, 0, 0), 3);
        due("it is broken", x.of(3, 5), 1);
        due("r's rows are there", x.of(3, 4), 2);
        due("row 1", x.of(3, 101), 2);
        due("no fork of it", x.fork(3, 1, 0, 0), NONE);
    }

    private static void of() {
        TrialBook x = new TrialBook();
        due("no run", x.of(0, 0), NONE);
        due("no run -1", x.of(-1, 4), NONE);
        x.data(2, -1);
        x.code(2, 4, 0x23405260, 0);
        x.run(2, 0x4321, 77, 2);
        // Tick 0 reads word 2, tick 1 word 3.
        int[] want = {2, 0x4321, 77, 2, 2, 0, NONE, NONE, 8, 12, 1, 1, 0};
        for (int what = 0; what < want.length; what++) {
            due("what " + what, x.of(0, what), want[what]);
        }
        for (int what : new int[] {-1, LEAST, MOST, 13, 99, 102, 116, 1000, -100}) {
            due("what " + what, x.of(0, what), NONE);
        }
        due("run most", x.of(MOST, 0), NONE);
        due("run least", x.of(LEAST, 0), NONE);
        due("row 0 at clock 1", x.of(0, 100), (4 ^ 77) - 1 + 1);
        x.data(3, 3);
        due("stale by word 3", x.of(0, 12), 1);
        x.data(3, 0);
        due("no longer", x.of(0, 12), 0);
        x.data(5, 1);
        due("word 5 was not read", x.of(0, 12), 0);
        x.code(2, 4, 0x23405261, 0);
        due("stale by code", x.of(0, 12), 1);
        x.code(2, 4, 0x23405260, 0);
        x.run(2, 0, 0, 1);
        due("the clock makes not stale", x.of(0, 12), 0);
    }

    private static void clock() {
        TrialBook x = new TrialBook();
        due("at first", x.clock(), 0);
        x.code(0, 1, 0x6F000000, 0);
        x.run(0, 0, 0, 3);
        due("one run", x.clock(), 1);
        due("as it begins", x.of(0, 100), 1);
        due("the same for all its ticks", x.of(0, 102), 3);
        x.again(0);
        due("a repeat", x.clock(), 2);
        x.fork(0, 1, 0, 0);
        due("a fork", x.clock(), 3);
        due("a fork's clock", x.of(1, 101), 4);
        x.again(5);
        x.fork(0, 9, 0, 0);
        x.run(0, 0, 0, 0);
        x.saved(0, 0, 0, 1);
        x.loose(0);
        x.claim(0);
        x.holes(0, 1, 1);
        x.pairs(0, 0, 1, 1, 0);
        due("nothing else", x.clock(), 3);
    }

    private static void runs() {
        TrialBook x = new TrialBook();
        due("at first", x.runs(), 0);
        x.run(0, 0, 0, 1);
        due("one", x.runs(), 1);
        x.again(0);
        due("a repeat is none", x.runs(), 1);
        x.fork(0, 1, 0, 0);
        due("a fork is one", x.runs(), 2);
        x.run(9, 0, 0, 1);
        due("a refused one is none", x.runs(), 2);
        x.code(0, 1, 0x90000000, 0);
        x.run(0, 0, 0, 1);
        due("a broken one is one", x.runs(), 3);
    }

    private static void again() {
        TrialBook x = new TrialBook();
        due("no run", x.again(0), NONE);
        due("no run -1", x.again(-1), NONE);
        due("nothing done", x.clock(), 0);
        x.code(0, 2, 0x50400000, 0);
        x.run(0, 0, 5, 6);
        due("the same", x.again(0), 6);
        x.data(3, 1);
        due("from tick 3 on", x.again(0), 3);
        x.data(0, 1);
        due("from tick 0 on", x.again(0), 0);
        x.data(0, 0);
        x.data(3, 0);
        x.data(6, 1);
        due("word 6 is not met", x.again(0), 6);
        x.code(0, 0, 0, 0);
        due("by its own code", x.again(0), 6);
        x.code(1, 2, 0x60100000, 0);
        x.run(1, 0, 0, 2);
        due("the clock, times 0", x.again(1), 2);
        due("it was read", x.of(1, 11), 1);
        due("again(2)", x.again(2), NONE);
        due("again(most)", x.again(MOST), NONE);
        x.code(1, 2, 0x60870000, 0);
        x.run(1, 0, 0, 1);
        // What is left of the clock by 9: this run began at 9.
        due("clock", x.clock(), 9);
        for (int n = 1; n <= 9; n++) {
            due("repeat " + n, x.again(2), n == 9 ? 1 : 0);
        }
        due("row stays", x.of(2, 100), 0);
    }

    private static void againBroken() {
        TrialBook x = new TrialBook();
        x.data(0, 1);
        x.data(1, 1);
        x.data(2, 1);
        x.data(3, 1);
        x.code(0, 2, 0x50920000, 0);
        x.run(0, 0, 0, 4);
        due("broken behind two", x.of(0, 4), 2);
        due("the same break", x.again(0), 4);
        x.data(2, 2);
        due("no break: a row in the repeat alone", x.again(0), 2);
        x.data(2, 1);
        x.data(1, 2);
        due("an earlier break: a row in the run alone", x.again(0), 1);
        x.data(0, 2);
        x.data(1, 2);
        due("another row first", x.again(0), 0);
        due("the run is as it was", x.of(0, 101), 2);
        due("the run's reads are as they were", x.of(0, 9), 7);
        x.code(1, 1, 0x90000000, 0);
        x.run(1, 0, 0, 1);
        due("no rows at all", x.again(1), 1);
    }

    private static void againFork() {
        TrialBook x = new TrialBook();
        x.data(0, 1);
        x.code(0, 2, 0x50210000, 0);
        x.run(0, 0, 0, 4);
        x.fork(0, 2, 0x0010, 0);
        due("the same", x.again(1), 4);
        x.data(0, 9);
        x.data(1, 9);
        due("ticks ahead of it are not done again", x.again(1), 4);
        due("loose all the same", x.loose(1), 3);
        x.data(3, 9);
        due("tick 3", x.again(1), 3);
        x.data(2, 9);
        due("tick 2", x.again(1), 2);
        x.fork(0, 4, 0, 0);
        due("nothing to do again", x.again(2), 4);
        due("clock", x.clock(), 8);
    }

    private static void loose() {
        TrialBook x = new TrialBook();
        due("no run", x.loose(0), NONE);
        x.code(0, 1, 0x50000000, 0);
        x.run(0, 0, 0, 8);
        due("nothing", x.loose(0), 0);
        for (int i = 0; i < 8; i++) {
            x.data(i, 1);
            due("word " + i + " too", x.loose(0), (2 << i) - 1);
        }
        x.data(7, 0);
        due("word 7 is as it was", x.loose(0), 127);
        x.run(0, 0, 0, 2);
        x.data(7, 5);
        due("what was not read is not loose", x.loose(1), 0);
        x.code(1, 2, 0x60570000, 0);
        x.run(1, 0, 0, 1);
        due("the clock", x.loose(2), 256);
        x.data(7, 6);
        due("the clock and word 7", x.loose(2), 256 + 128);
        x.code(1, 0, 0, 0);
        due("a code is never loose", x.loose(1), 0);
        due("loose(-1)", x.loose(-1), NONE);
        due("loose(3)", x.loose(3), NONE);
        due("loose(most)", x.loose(MOST), NONE);
    }

    private static void saved() {
        TrialBook x = new TrialBook();
        x.code(0, 2, 0x21400000, 0);
        x.run(0, 0x0020, 7, 5);
        due("the same", x.saved(0, 0x0020, 7, 5), 0);
        due("fewer ticks", x.saved(0, 0x0020, 7, 1), 0);
        due("more ticks", x.saved(0, 0x0020, 7, 6), NONE);
        due("settings not read", x.saved(0, 0x5525, 7, 5), 0);
        due("a setting read", x.saved(0, 0x0030, 7, 5), NONE);
        due("the seed was read", x.saved(0, 0x0020, 8, 5), NONE);
        x.run(0, 0x0020, 7, 8);
        due("the least", x.saved(0, 0x0020, 7, 5), 0);
        due("the least with so many ticks", x.saved(0, 0x0020, 7, 6), 1);
        x.code(0, 1, 0x21000000, 0);
        due("steps as they are now", x.saved(0, 0x0020, 7, 5), NONE);
        x.code(3, 2, 0x21400000, 0);
        due("such steps under another number", x.saved(3, 0x0020, 7, 5), 0);
        x.run(0, 0x0020, 7, 2);
        x.fork(2, 2, 0, 0);
        due("no seed read", x.saved(0, 0x0020, 8, 2), 2);
        x.fork(2, 0, 0x0040, 7);
        due("a fork is not saved", x.saved(0, 0x0040, 7, 2), NONE);
        x.code(1, 2, 0x01920000, 0);
        x.run(1, 0, 0, 6);
        due("broken at tick 2", x.of(5, 4), 2);
        due("a broken run is not saved", x.saved(1, 0, 0, 1), NONE);
        x.code(1, 1, 0x60000000, 0);
        x.run(1, 0, 0, 1);
        due("one with the clock is not saved", x.saved(1, 0, 0, 1), NONE);
        x.code(1, 1, 0x50000000, 0);
        x.run(1, 0, 0, 2);
        x.data(1, 5);
        x.run(1, 0, 0, 2);
        due("data as it is now", x.saved(1, 0, 0, 1), 8);
        x.data(1, 0);
        due("data as it was", x.saved(1, 0, 0, 1), 7);
        x.data(2, 6);
        due("data not read", x.saved(1, 0, 0, 2), 7);
    }

    private static void savedRefused() {
        TrialBook x = new TrialBook();
        x.run(0, 0, 0, 16);
        int[][] bad = {
            {-1, 0, 0, 1}, {4, 0, 0, 1}, {0, 6, 0, 1}, {0, 0x6000, 0, 1}, {0, 0x10000, 0, 1}, {0, -1, 0, 1},
            {0, 0, -1, 1}, {0, 0, 100, 1}, {0, 0, 0, 0}, {0, 0, 0, -1}, {0, 0, 0, 17}, {MOST, 0, 0, 1},
            {LEAST, LEAST, LEAST, LEAST}};
        for (int[] b : bad) {
            due("saved " + java.util.Arrays.toString(b), x.saved(b[0], b[1], b[2], b[3]), NONE);
        }
        due("all fit", x.saved(3, 0x5555, 99, 16), 0);
    }

    private static void pairs() {
        TrialBook x = new TrialBook();
        // Setting 2 above 0 leaves setting 1 out, so that there are ties.
        x.code(0, 3, 0x32215000, 0);
        x.run(0, 0x0000, 1, 2);
        x.run(0, 0x0030, 1, 2);
        due("one", x.pairs(1, 0, 3, 2, 0), 1);
        due("won", x.pairs(1, 0, 3, 2, 1), 1);
        due("not lost", x.pairs(1, 0, 3, 2, 2), 0);
        due("the other way", x.pairs(1, 3, 0, 2, 0), 1);
        due("not won", x.pairs(1, 3, 0, 2, 1), 0);
        due("lost", x.pairs(1, 3, 0, 2, 2), 1);
        due("other ticks", x.pairs(1, 0, 3, 1, 0), 0);
        x.run(0, 0x0130, 1, 2);
        due("another setting differs too", x.pairs(1, 0, 3, 2, 0), 1);
        x.run(0, 0x0100, 1, 2);
        due("a tie", x.pairs(1, 0, 3, 2, 0), 2);
        due("is not won", x.pairs(1, 0, 3, 2, 1), 1);
        due("is not lost", x.pairs(1, 0, 3, 2, 2), 0);
        x.run(0, 0x0030, 2, 2);
        due("another seed, though not read", x.pairs(1, 0, 3, 2, 0), 2);
        x.run(0, 0x1000, 2, 2);
        due("another setting, though not read", x.pairs(1, 0, 3, 2, 0), 2);
        int[][] bad = {
            {-1, 0, 3, 2, 0}, {4, 0, 3, 2, 0}, {1, -1, 3, 2, 0}, {1, 6, 3, 2, 0}, {1, 0, -1, 2, 0}, {1, 0, 6, 2, 0},
            {1, 3, 3, 2, 0}, {1, 0, 3, 0, 0}, {1, 0, 3, 17, 0}, {1, 0, 3, -1, 0}, {1, 0, 3, 2, -1}, {1, 0, 3, 2, 3},
            {MOST, 0, 3, 2, 0}, {LEAST, 0, 3, 2, 0}, {1, 0, 3, 2, MOST}, {1, MOST, 3, 2, 0}, {1, 0, LEAST, 2, 0}};
        for (int[] b : bad) {
            due("pairs " + java.util.Arrays.toString(b), x.pairs(b[0], b[1], b[2], b[3], b[4]), NONE);
        }
        due("values at the edge", x.pairs(0, 5, 0, 16, 0), 0);
    }

    private static void counting() {
        TrialBook x = new TrialBook();
        x.code(0, 1, 0x20000000, 0);
        x.run(0, 0, 0, 1);
        x.run(0, 1, 0, 1);
        x.run(0, 1, 0, 1);
        x.run(0, 0, 0, 1);
        due("like ones count once", x.pairs(0, 0, 1, 1, 0), 1);
        x.code(1, 1, 0x20000000, 0);
        x.run(1, 1, 0, 1);
        due("the code's number is nothing", x.pairs(0, 0, 1, 1, 0), 1);
        x.fork(0, 0, 2, 0);
        due("forks do not count", x.pairs(0, 0, 2, 1, 0), 0);
        x.run(0, 2, 0, 1);
        due("behind a fork one counts", x.pairs(0, 0, 2, 1, 0), 1);
        x.code(0, 2, 0x20600000, 0);
        x.run(0, 0, 0, 1);
        x.run(0, 1, 0, 1);
        due("the clock does not count", x.pairs(0, 0, 1, 1, 0), 1);
        x.code(0, 4, 0x20309000, 0);
        x.run(0, 0, 0, 1);
        x.run(0, 1, 0, 1);
        due("broken or not", x.of(9, 5) * 10 + x.of(10, 5), 10);
        due("the broken do not count", x.pairs(0, 0, 1, 1, 0), 1);
        x.code(0, 2, 0x20000000, 0);
        x.run(0, 0, 0, 1);
        due("other steps do not pair", x.pairs(0, 0, 1, 1, 0), 1);
        x.run(0, 1, 0, 1);
        due("these do", x.pairs(0, 0, 1, 1, 0), 2);
        x.run(0, 0, 0, 2);
        x.run(0, 1, 0, 2);
        due("other ticks are not like", x.pairs(0, 0, 1, 2, 0), 1);
        due("nor do they pair", x.pairs(0, 0, 1, 1, 0), 2);
        x.data(0, 9);
        x.code(0, 0, 0, 0);
        due("what is stale counts", x.pairs(0, 0, 1, 1, 0), 2);
    }

    private static void pairsByData() {
        TrialBook x = new TrialBook();
        x.code(0, 2, 0x20500000, 0);
        x.run(0, 0, 0, 1);
        x.data(0, 5);
        x.run(0, 1, 0, 1);
        due("a word that both read", x.pairs(0, 0, 1, 1, 0), 0);
        x.run(0, 0, 0, 1);
        due("the like under other data counts too", x.pairs(0, 0, 1, 1, 0), 1);
        x.data(0, 0);
        x.run(0, 1, 0, 1);
        due("each with its own", x.pairs(0, 0, 1, 1, 0), 2);
        x.data(1, 7);
        x.run(0, 1, 0, 1);
        due("a word that was not read is nothing", x.pairs(0, 0, 1, 1, 0), 2);
        // With setting 0 at 1 the word is left out, so that it is shared by none.
        x.code(0, 2, 0x30500000, 0);
        x.run(0, 0, 0, 1);
        x.run(0, 1, 0, 1);
        x.data(0, -3);
        x.run(0, 0, 0, 1);
        x.run(0, 1, 0, 1);
        due("a word that one read", x.pairs(0, 0, 1, 1, 0), 4);
        due("won", x.pairs(0, 0, 1, 1, 1), 3);
    }

    private static void pair() {
        TrialBook x = new TrialBook();
        x.code(0, 2, 0x30500000, 0);
        x.run(0, 1, 0, 1);
        x.run(0, 0, 0, 1);
        x.data(0, 4);
        x.run(0, 0, 0, 1);
        x.code(0, 3, 0x31305000, 0);
        x.run(0, 0x0001, 0, 1);
        x.run(0, 0x0000, 0, 1);
        x.data(0, 5);
        x.run(0, 0x0000, 0, 1);
        int[][] want = {{0, 1}, {0, 2}, {3, 4}, {3, 5}};
        due("how many", x.pairs(0, 1, 0, 1, 0), 4);
        for (int k = 0; k < 4; k++) {
            due("p of " + k, x.pair(0, 1, 0, 1, k, 0), want[k][0]);
            due("q of " + k, x.pair(0, 1, 0, 1, k, 1), want[k][1]);
            due("q the other way " + k, x.pair(0, 0, 1, 1, k, 1), want[k][0]);
            due("p the other way " + k, x.pair(0, 0, 1, 1, k, 0), want[k][1]);
        }
        int[][] bad = {
            {0, 1, 0, 1, 4, 0}, {0, 1, 0, 1, -1, 0}, {0, 1, 0, 1, 0, 2}, {0, 1, 0, 1, 0, -1}, {0, 1, 1, 1, 0, 0},
            {0, 1, 0, 0, 0, 0}, {0, 1, 0, 17, 0, 0}, {0, 1, 0, 2, 0, 0}, {-1, 1, 0, 1, 0, 0}, {4, 1, 0, 1, 0, 0},
            {0, 6, 0, 1, 0, 0}, {0, 1, 6, 1, 0, 0}, {0, -1, 0, 1, 0, 0}, {0, 1, 0, 1, MOST, 0}, {0, 1, 0, 1, LEAST, 0}};
        for (int[] b : bad) {
            due("pair " + java.util.Arrays.toString(b), x.pair(b[0], b[1], b[2], b[3], b[4], b[5]), NONE);
        }
    }

    /** So many pairs by setting 0, 0 against 1, that are won, lost and ties, of one tick. */
    private static TrialBook withSigns(int won, int lost, int ties) {
        TrialBook x = new TrialBook();
        int seed = 0;
        int[] how = {won, lost, ties};
        // Setting 0 more; 1 more that it leaves out; setting 0 more, but times 0.
        int[] steps = {0x20000000, 0x30010000, 0x20100000};
        for (int kind = 0; kind < 3; kind++) {
            x.code(0, 2, steps[kind], 0);
            for (int n = 0; n < how[kind]; n++) {
                x.run(0, 0, seed, 1);
                x.run(0, 1, seed, 1);
                seed++;
            }
        }
        return x;
    }

    private static void sure() {
        TrialBook x = withSigns(7, 2, 0);
        due("n", x.pairs(0, 0, 1, 1, 0), 9);
        due("w", x.pairs(0, 0, 1, 1, 1), 7);
        due("lost", x.pairs(0, 0, 1, 1, 2), 2);
        // 36 + 9 + 1 = 46; 512 / 46 is 11 and some.
        due("at 11", x.sure(0, 0, 1, 1, 1, 11), 1);
        due("at 12", x.sure(0, 0, 1, 1, 1, 12), 0);
        due("11 comparisons", x.sure(0, 0, 1, 1, 11, 1), 1);
        due("12 comparisons", x.sure(0, 0, 1, 1, 12, 1), 0);
        due("3 times 3", x.sure(0, 0, 1, 1, 3, 3), 1);
        due("3 times 4", x.sure(0, 0, 1, 1, 3, 4), 0);
        // the other way: 512 less 1 and 9
        due("the other way at 1", x.sure(0, 1, 0, 1, 1, 1), 1);
        due("the other way at 2", x.sure(0, 1, 0, 1, 1, 2), 0);
        due("most of both", x.sure(0, 0, 1, 1, 1000, 1000000), 0);
        int[][] bad = {
            {0, 0, 1, 1, 0, 1}, {0, 0, 1, 1, 1001, 1}, {0, 0, 1, 1, -1, 1}, {0, 0, 1, 1, 1, 0},
            {0, 0, 1, 1, 1, 1000001}, {0, 0, 1, 1, 1, -1}, {0, 1, 1, 1, 1, 1}, {4, 0, 1, 1, 1, 1}, {-1, 0, 1, 1, 1, 1},
            {0, 6, 1, 1, 1, 1}, {0, 0, 6, 1, 1, 1}, {0, 0, -1, 1, 1, 1}, {0, 0, 1, 0, 1, 1}, {0, 0, 1, 17, 1, 1},
            {0, 0, 1, 1, MOST, MOST}, {0, 0, 1, 1, LEAST, LEAST}};
        for (int[] b : bad) {
            due("sure " + java.util.Arrays.toString(b), x.sure(b[0], b[1], b[2], b[3], b[4], b[5]), NONE);
        }
    }

    private static void sureWithTies() {
        TrialBook x = withSigns(4, 0, 3);
        due("pairs", x.pairs(0, 0, 1, 1, 0), 7);
        due("ties are no signs", x.sure(0, 0, 1, 1, 4, 4), 1);
        due("16 is the edge", x.sure(0, 0, 1, 1, 1, 17), 0);
        TrialBook none = withSigns(0, 0, 5);
        due("without signs at 1", none.sure(0, 0, 1, 1, 1, 1), 1);
        due("without signs at 2", none.sure(0, 0, 1, 1, 1, 2), 0);
        due("without signs, 2 comparisons", none.sure(0, 0, 1, 1, 2, 1), 0);
    }

    /** One run with setting 0 at 1, which pairs with each of those at 0: it alone leaves the word out. */
    private static TrialBook withMany(int won, int ties) {
        TrialBook x = new TrialBook();
        x.code(0, 3, 0x30500100, 0);
        for (int n = 0; n < won; n++) {
            x.data(0, -5 - n);
            x.run(0, 0, 0, 1);
        }
        x.data(0, 0);
        for (int n = 0; n < ties; n++) {
            x.run(0, 0, 0, 1);
        }
        x.run(0, 1, 0, 1);
        return x;
    }

    private static void sureAtThirty() {
        TrialBook x = withMany(30, 0);
        due("30 signs", x.pairs(0, 0, 1, 1, 1), 30);
        due("1000 times 1000000", x.sure(0, 0, 1, 1, 1000, 1000000), 1);
        due("the other way", x.sure(0, 1, 0, 1, 1, 1), 1);
        due("the other way at most", x.sure(0, 1, 0, 1, 1000, 1000000), 0);
        TrialBook tie = withMany(30, 1);
        due("31 pairs", tie.pairs(0, 0, 1, 1, 0), 31);
        due("a tie is no sign", tie.sure(0, 0, 1, 1, 1000, 1000000), 1);
        TrialBook more = withMany(31, 0);
        due("31 signs", more.pairs(0, 0, 1, 1, 1), 31);
        due("are not told", more.sure(0, 0, 1, 1, 1, 1), NONE);
        due("nor the other way", more.sure(0, 1, 0, 1, 1, 1), NONE);
        due("nor is a best", more.best(0, 1, 1), NONE);
        due("with 30 it is", x.best(0, 1, 1000000), 1);
        TrialBook less = withMany(29, 0);
        // 2 to the 29 is 536870912
        due("29 signs", less.sure(0, 0, 1, 1, 1000, 536870), 1);
        due("29 signs, one more", less.sure(0, 0, 1, 1, 1000, 536871), 0);
    }

    private static void best() {
        TrialBook x = withSigns(5, 0, 0);
        due("at 16", x.best(0, 1, 16), 1);
        due("at 17", x.best(0, 1, 17), NONE);
        due("other ticks", x.best(0, 2, 1), NONE);
        due("another setting", x.best(1, 1, 1), NONE);
        due("bound 1", x.bound(0, 1), true);
        due("none to be better than", x.best(0, 1, 1), NONE);
        x.bound(0, 3);
        due("nothing of value 2", x.best(0, 1, 1), NONE);
        x.bound(0, 2);
        int[][] bad = {{-1, 1, 1}, {4, 1, 1}, {0, 0, 1}, {0, 17, 1}, {0, 1, 0}, {0, 1, -1}, {0, 1, 1000001},
            {MOST, 1, 1}, {LEAST, 1, 1}, {0, MOST, 1}, {0, 1, MOST}};
        for (int[] b : bad) {
            due("best " + java.util.Arrays.toString(b), x.best(b[0], b[1], b[2]), NONE);
        }
        TrialBook y = withSigns(0, 5, 0);
        due("0 may be the best", y.best(0, 1, 16), 0);
    }

    private static void bestOfThree() {
        TrialBook x = new TrialBook();
        // Setting 1 above 1 leaves 12 out: (12, 12 or 0) times 2 and setting 1 more.
        x.code(0, 4, 0x350C1221, 0);
        x.bound(1, 3);
        for (int seed = 0; seed < 6; seed++) {
            x.run(0, 0x0000, seed, 1);
            x.run(0, 0x0010, seed, 1);
            x.run(0, 0x0020, seed, 1);
        }
        due("24", x.of(0, 100), 24);
        due("25", x.of(1, 100), 25);
        due("2", x.of(2, 100), 2);
        // 6 comparisons, 6 signs: 6 R at most 64
        due("at 10", x.best(1, 1, 10), 1);
        due("at 11", x.best(1, 1, 11), NONE);
        x.bound(1, 2);
        due("2 comparisons at 32", x.best(1, 1, 32), 1);
        due("2 comparisons at 33", x.best(1, 1, 33), NONE);
        x.bound(1, 4);
        due("one of them has no runs", x.best(1, 1, 1), NONE);
    }

    /** Between 0 and 1 there are 33 signs, too many to tell; 2 is the best all the same. */
    private static void bestBesideTooMany() {
        TrialBook x = new TrialBook();
        x.bound(0, 3);
        // Word 0 is read at 0 alone, word 1 at 1 and 2 alone (setting 1 leaves it out at 0).
        x.code(0, 6, 0x30503031, 0x51200000);
        for (int n = 0; n < 3; n++) {
            x.data(0, -1000 - n);
            x.run(0, 0x0010, 0, 1);
        }
        for (int n = 0; n < 11; n++) {
            x.data(1, n);
            x.run(0, 0x0011, 0, 1);
        }
        for (int n = 0; n < 10; n++) {
            x.data(1, n);
            x.run(0, 0x0012, 0, 1);
        }
        due("0 and 1", x.pairs(0, 0, 1, 1, 1), 33);
        due("not told", x.sure(0, 0, 1, 1, 1, 1), NONE);
        due("0 and 2", x.pairs(0, 0, 2, 1, 1), 30);
        due("1 and 2", x.pairs(0, 1, 2, 1, 1), 10);
        // 6 comparisons times 170 is 1020, at most 2 to the 10
        due("at 170", x.best(0, 1, 170), 2);
        due("at 171", x.best(0, 1, 171), NONE);
        x.bound(0, 2);
        due("2 is out of bounds", x.best(0, 1, 1), NONE);
    }

    private static void holes() {
        TrialBook x = new TrialBook();
        due("all", x.holes(0, 1, 8), 128);
        for (int i = 0; i < 4; i++) {
            x.bound(i, 6);
        }
        due("the whole grid", x.holes(3, 16, 8), 10368);
        x.code(0, 2, 0x20400000, 0);
        x.run(0, 0x0005, 7, 2);
        due("one value and one seed", x.holes(0, 2, 8), 10368 - 216);
        due("seed 7 is not asked for", x.holes(0, 2, 7), 1296 * 7);
        due("fewer ticks", x.holes(0, 1, 8), 10368 - 216);
        due("more ticks", x.holes(0, 3, 8), 10368);
        x.run(0, 0x5505, 7, 2);
        due("the same again", x.holes(0, 2, 8), 10368 - 216);
        x.run(0, 0x0000, 8, 2);
        due("a seed outside", x.holes(0, 2, 8), 10368 - 216);
        x.bound(0, 5);
        due("5 is out of bounds", x.holes(0, 2, 8), 1080 * 8);
        x.code(0, 1, 0x50000000, 0);
        x.run(0, 0, 99, 2);
        due("all filled by one that read neither", x.holes(0, 2, 8), 0);
        due("by its code alone", x.holes(1, 2, 1), 1080);
        x.data(1, 1);
        due("stale data", x.holes(0, 1, 1), 1080);
        x.data(1, 0);
        due("data as it was", x.holes(0, 1, 1), 0);
        x.code(2, 1, 0x60000000, 0);
        x.run(2, 0, 0, 1);
        due("the clock fills none", x.holes(2, 1, 1), 1080);
        x.code(2, 1, 0x90000000, 0);
        x.run(2, 0, 0, 1);
        due("the broken fills none", x.holes(2, 1, 1), 1080);
        x.code(2, 2, 0x20000000, 0);
        x.run(2, 1, 0, 1);
        x.fork(x.runs() - 1, 0, 0, 0);
        due("a fork fills none", x.holes(2, 1, 1), 1080 - 216);
        int[][] bad = {{-1, 1, 1}, {4, 1, 1}, {0, 0, 1}, {0, 17, 1}, {0, 1, 0}, {0, 1, 9}, {0, 1, -1}, {MOST, 1, 1},
            {0, LEAST, 1}, {0, 1, MOST}, {0, 1, LEAST}};
        for (int[] b : bad) {
            due("holes " + java.util.Arrays.toString(b), x.holes(b[0], b[1], b[2]), NONE);
        }
    }

    private static void hole() {
        TrialBook x = new TrialBook();
        x.bound(0, 2);
        x.bound(1, 1);
        x.bound(2, 3);
        x.bound(3, 2);
        x.code(0, 4, 0x20222340, 0);
        x.run(0, 0x0000, 1, 1);
        x.run(0, 0x1100, 0, 1);
        int[][] want = {
            {0x0000, 0}, {0x1000, 0}, {0x1000, 1}, {0x0100, 0}, {0x0100, 1}, {0x1100, 1}, {0x0200, 0}, {0x0200, 1},
            {0x1200, 0}, {0x1200, 1}, {0x0001, 0}, {0x0001, 1}, {0x1001, 0}};
        for (int j = 0; j < want.length; j++) {
            due("settings of " + j, x.hole(0, 1, 2, j, 0), want[j][0]);
            due("seed of " + j, x.hole(0, 1, 2, j, 1), want[j][1]);
        }
        due("how many", x.holes(0, 1, 2), 22);
        due("the last", x.hole(0, 1, 2, 21, 0), 0x1201);
        due("its seed", x.hole(0, 1, 2, 21, 1), 1);
        due("behind it", x.hole(0, 1, 2, 22, 0), NONE);
        for (int i = 0; i < 4; i++) {
            x.bound(i, 6);
        }
        due("the last of all", x.hole(3, 1, 8, 10367, 0), 0x5555);
        due("its seed", x.hole(3, 1, 8, 10367, 1), 7);
        due("behind it", x.hole(3, 1, 8, 10368, 1), NONE);
        int[][] bad = {
            {-1, 1, 1, 0, 0}, {4, 1, 1, 0, 0}, {0, 0, 1, 0, 0}, {0, 17, 1, 0, 0}, {0, 1, 0, 0, 0}, {0, 1, 9, 0, 0},
            {0, 1, 1, -1, 0}, {0, 1, 1, MOST, 0}, {0, 1, 1, LEAST, 0}, {0, 1, 1, 0, 2}, {0, 1, 1, 0, -1}};
        for (int[] b : bad) {
            due("hole " + java.util.Arrays.toString(b), x.hole(b[0], b[1], b[2], b[3], b[4]), NONE);
        }
    }

    private static void idle() {
        TrialBook x = new TrialBook();
        due("without runs", x.idle(), 15);
        x.code(0, 1, 0x21000000, 0);
        x.run(0, 0x0006, 0, 1);
        due("a refused run reads none", x.idle(), 15);
        x.code(0, 0, 0, 0);
        x.run(0, 0x5555, 0, 1);
        due("one that reads none", x.idle(), 15);
        x.code(0, 2, 0x32200000, 0);
        due("a code is no run", x.idle(), 15);
        x.run(0, 0x0100, 0, 1);
        due("2 was read, 0 left out", x.idle(), 15 - 4);
        x.fork(1, 0, 0, 0);
        due("a fork reads 0", x.idle(), 15 - 4 - 1);
        x.again(0);
        due("a repeat is no run", x.idle(), 15 - 4 - 1);
        x.code(0, 2, 0x23900000, 0);
        x.run(0, 0, 0, 1);
        due("a broken one reads 3", x.idle(), 2);
        x.code(0, 1, 0x21000000, 0);
        x.run(0, 0, 0, 1);
        due("none is idle", x.idle(), 0);
    }

    private static void claim() {
        TrialBook x = new TrialBook();
        due("no run", x.claim(0), NONE);
        due("no run -1", x.claim(-1), NONE);
        x.code(0, 1, 0x05000000, 0);
        x.run(0, 0, 0, 2);
        x.code(0, 2, 0x01910000, 0);
        x.run(0, 0, 0, 2);
        due("broken", x.claim(1), NONE);
        due("claim(2)", x.claim(2), NONE);
        due("claim(most)", x.claim(MOST), NONE);
        x.fork(0, 1, 0, 0);
        for (int i = 0; i < 20; i++) {
            due("claim " + i, x.claim(i == 7 ? 2 : 0), i);
        }
        due("the 21st", x.claim(0), NONE);
        due("it is not there", x.claimed(20, 0), NONE);
        due("the 20th is as it was", x.claimed(19, 1), 10);
        due("a fork's", x.claimed(7, 0), 2);
    }

    private static void claimed() {
        TrialBook x = new TrialBook();
        x.data(1, 3);
        x.code(0, 1, 0x50000000, 0);
        x.run(0, 0, 0, 2);
        x.code(1, 1, 0x07000000, 0);
        x.run(1, 0, 0, 4);
        x.claim(1);
        x.claim(0);
        due("run of 0", x.claimed(0, 0), 1);
        due("row of 0", x.claimed(0, 1), 28);
        due("run of 1", x.claimed(1, 0), 0);
        due("row of 1", x.claimed(1, 1), 3);
        due("1 is not stale", x.claimed(1, 2), 0);
        x.data(1, 4);
        due("1 is stale", x.claimed(1, 2), 1);
        due("its row as it was told", x.claimed(1, 1), 3);
        due("0 is not", x.claimed(0, 2), 0);
        x.data(1, 3);
        due("changed back", x.claimed(1, 2), 0);
        x.code(1, 1, 0x08000000, 0);
        due("0 is stale by its code", x.claimed(0, 2), 1);
        due("a stale run can be claimed", x.claim(1), 2);
        due("it is stale", x.claimed(2, 2), 1);
        int[][] bad = {{-1, 0}, {3, 0}, {0, 3}, {0, -1}, {MOST, 0}, {LEAST, 0}, {0, MOST}, {0, LEAST}};
        for (int[] b : bad) {
            due("claimed " + java.util.Arrays.toString(b), x.claimed(b[0], b[1]), NONE);
        }
    }
}
