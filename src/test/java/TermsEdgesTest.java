/** The edges that the document's Terms name, each sentence with a test of its own. */
public final class TermsEdgesTest {
    private static final int NONE = Books.NONE;
    private static final int MOST = Books.MOST;
    private static final int LEAST = Books.LEAST;
    private static final Due due = new Due();

    public static void main(String[] args) {
        calls();
        codes();
        data();
        clock();
        whatARunHas();
        kindsZeroAndOne();
        kindTwo();
        kindThree();
        kindThreeAtTheEnd();
        kindFour();
        kindFive();
        kindSix();
        kindSeven();
        kindEight();
        kindNine();
        rowsOfTheBroken();
        otherKinds();
        wrapping();
        reading();
        fortyRuns();
        forkTicks();
        forkReads();
        forkCode();
        doneAgain();
        doneAgainFork();
        loose();
        stale();
        saved();
        savedRows();
        pairsAreAlike();
        pairsByWords();
        counting();
        order();
        winning();
        sureEdges();
        thirtySigns();
        holes();
        holesOrder();
        idle();
        idleByAll();
        twentyClaims();
        claimsGoStale();
        due.end();
    }

    private static void calls() {
        due.sentence("An object is used for at most 512 calls after it has been made");
        TrialBook x = Books.full();
        for (int call = 42; call < 512; call++) {
            x.again(39);
        }
        due.is("the 512th call", x.clock(), 40 + 470);
    }

    private static void codes() {
        due.sentence("CODES 0 .. 3");
        TrialBook x = new TrialBook();
        for (int k = 0; k < 4; k++) {
            Books.steps(x, k, k + 1);
        }
        for (int k = 0; k < 4; k++) {
            due.is("code " + k + " has its own steps", x.of(x.run(k, 0, 0, 1), 100), k + 1);
        }
        due.sentence("rows of up to 8 STEPS");
        due.is("8 ones", Books.end(x, 0, 0, 1, 1, 1, 1, 1, 1, 1, 1, 1), 8);
        due.is("7 ones", Books.end(x, 0, 0, 1, 1, 1, 1, 1, 1, 1, 1), 7);
        due.sentence("(at first none)");
        TrialBook y = new TrialBook();
        for (int k = 0; k < 4; k++) {
            due.is("run of code " + k, y.run(k, 0x5555, 99, 16), k);
            due.is("16 rows", y.of(k, 4), 16);
            due.is("of 0", y.of(k, 115), 0);
            due.is("nothing read", y.of(k, 8) + y.of(k, 9) + y.of(k, 10) + y.of(k, 11), 0);
            due.is("all four are alike", y.saved(k, 0, 0, 16), 0);
        }
        for (int k = 0; k < 4; k++) {
            Books.steps(y, k);
            due.is("to have none is not another code", y.of(k, 12), 0);
            y.code(k, 0, -1, -1);
            due.is("whatever bytes there are", y.of(k, 12), 0);
        }
        due.sentence("each a byte: 16 times its KIND and an operand o 0 .. 15");
        due.is("kind 0, o 0", Books.end(x, 0, 0, 1, 0x00), 0);
        due.is("kind 0, o 15", Books.end(x, 0, 0, 1, 0x0F), 15);
        due.is("kind 1, o 0", Books.end(x, 0, 0, 1, 0x0F, 0x10), 0);
        due.is("kind 15, o 15", Books.end(x, 0, 0, 1, 0x0F, 0xFF), 15);
    }

    private static void data() {
        due.sentence("DATA: 8 words 0 .. 7 (ints, 0 at first)");
        TrialBook x = new TrialBook();
        due.is("at first", Books.end(x, 0, 0, 16, 0x50), 0);
        x.data(0, LEAST);
        x.data(7, MOST);
        due.is("word 0", Books.end(x, 0, 0, 1, 0x50), LEAST);
        due.is("word 7", Books.end(x, 0, 0, 1, 0x57), MOST);
        due.is("word 1 is still 0", Books.end(x, 0, 0, 1, 0x51), 0);
        due.is("word 6 is still 0", Books.end(x, 0, 0, 1, 0x56), 0);
    }

    private static void clock() {
        due.sentence("THE CLOCK: at first 0");
        TrialBook x = new TrialBook();
        due.is("clock()", x.clock(), 0);
        due.sentence("with each run, fork or repeat that is done it is one more (as it begins)");
        Books.steps(x, 0, 0x60);
        x.run(0, 0, 0, 2);
        due.is("the first run reads 1", x.of(0, 100), 1);
        due.is("in all its ticks", x.of(0, 101), 2);
        x.fork(0, 0, 0, 0);
        due.is("the fork reads 2", x.of(1, 100), 2);
        due.is("the repeat reads 3", x.again(0), 0);
        due.is("clock", x.clock(), 3);
        x.run(0, 0, 0, 1);
        due.is("the next run reads 4", x.of(2, 100), 4);
        Books.steps(x, 0, 0x90);
        x.run(0, 0, 0, 1);
        due.is("a run that breaks at once is done", x.clock(), 5);
        x.fork(0, 2, 0, 0);
        due.is("a fork at the end is done", x.clock(), 6);
        x.again(4);
        due.is("so is its repeat", x.clock(), 7);
    }

    private static void whatARunHas() {
        TrialBook x = new TrialBook();
        due.sentence("four SETTINGS 0 .. 3 (0 .. 5 each)");
        for (int i = 0; i < 4; i++) {
            due.is("setting " + i + " at 5", Books.end(x, 5 << 4 * i, 0, 1, 0x20 + i), 5);
            due.is("setting " + i + " at 0", Books.end(x, 0x5555 - (5 << 4 * i), 0, 1, 0x20 + i), 0);
            due.is("setting " + i + " at 6", x.run(0, 6 << 4 * i, 0, 1), NONE);
            due.is("setting " + i + " at 15", x.run(0, 15 << 4 * i, 0, 1), NONE);
        }
        due.sentence("a SEED (0 .. 99)");
        due.is("0", Books.end(x, 0, 0, 1, 0x40), 0);
        due.is("99", Books.end(x, 0, 99, 1, 0x40), 99);
        due.is("-1", x.run(0, 0, -1, 1), NONE);
        due.is("100", x.run(0, 0, 100, 1), NONE);
        due.sentence("T ticks (1 .. 16)");
        due.is("1", Books.end(x, 0, 0, 1, 0x01), 1);
        due.is("16", Books.end(x, 0, 0, 16, 0x01), 16);
        due.is("0", x.run(0, 0, 0, 0), NONE);
        due.is("17", x.run(0, 0, 0, 17), NONE);
        due.sentence("x (an int, 0 at first)");
        due.is("behind another run, from 0 on", Books.end(x, 0, 0, 1, 0x02), 2);
    }

    private static void kindsZeroAndOne() {
        TrialBook x = new TrialBook();
        due.sentence("0 x gets o more.");
        due.is("o 0", Books.end(x, 0, 0, 2, 0x00), 0);
        due.is("o 15", Books.end(x, 0, 0, 2, 0x0F), 30);
        due.sentence("1 x is multiplied by o.");
        due.is("o 0", Books.end(x, 0, 0, 2, 0x05, 0x10), 0);
        due.is("o 1", Books.end(x, 0, 0, 1, 0x05, 0x11), 5);
        due.is("o 15", Books.end(x, 0, 0, 1, 0x0F, 0x1F), 225);
    }

    private static void kindTwo() {
        due.sentence("2 x gets SETTING o modulo 4 more.");
        TrialBook x = new TrialBook();
        int[] settings = {2, 3, 4, 5};
        for (int o = 0; o < 16; o++) {
            due.is("o " + o, Books.end(x, 0x5432, 0, 1, 0x20 + o), settings[o % 4]);
            due.is("it was read", x.of(o, 8), 1 << o % 4);
        }
    }

    private static void kindThree() {
        due.sentence("3 if SETTING o modulo 4 is above o by 4 (downwards), the next STEP of this tick is left out.");
        // From o 0 .. 3 on, 4 .. 7, 8 .. 11 and 12 .. 15: left out above 0, 1, 2 and 3.
        for (int o = 0; o < 16; o++) {
            TrialBook x = new TrialBook();
            int edge = o < 4 ? 0 : o < 8 ? 1 : o < 12 ? 2 : 3;
            for (int value = 0; value < 6; value++) {
                boolean above = value > edge;
                // The other settings would have it the other way round.
                int others = (above ? 0x0000 : 0x5555) & ~(15 << 4 * (o % 4));
                int got = Books.end(x, others + (value << 4 * (o % 4)), 0, 1, 0x30 + o, 0x01, 0x02);
                due.is("o " + o + ", setting at " + value, got, above ? 2 : 3);
            }
        }
    }

    private static void kindThreeAtTheEnd() {
        due.sentence("the next STEP of this tick is left out");
        TrialBook x = new TrialBook();
        due.is("as the last step", Books.end(x, 1, 0, 4, 0x01, 0x30), 4);
        due.is("as the eighth step", Books.end(x, 1, 0, 2, 1, 1, 1, 1, 1, 1, 1, 0x30), 14);
        due.is("as the only step", Books.end(x, 1, 0, 16, 0x30), 0);
        due.is("the eighth step is left out", Books.end(x, 1, 0, 2, 1, 1, 1, 1, 1, 1, 0x30, 1), 12);
        due.is("one that is left out leaves none out", Books.end(x, 1, 0, 1, 0x30, 0x30, 0x01), 1);
        due.is("two behind each other", Books.end(x, 1, 0, 1, 0x30, 0x01, 0x30, 0x02, 0x04), 4);
    }

    private static void kindFour() {
        due.sentence("4 x becomes x xor (SEED times (o + 1)).");
        TrialBook x = new TrialBook();
        due.is("seed 0", Books.end(x, 0, 0, 1, 0x05, 0x4F), 5);
        due.is("it was read all the same", x.of(0, 10), 1);
        due.is("o 0", Books.end(x, 0, 99, 1, 0x40), 99);
        due.is("o 15", Books.end(x, 0, 99, 1, 0x4F), 1584);
        due.is("twice", Books.end(x, 0, 99, 2, 0x4F), 0);
        x.data(0, -1);
        due.is("below 0", Books.end(x, 0, 99, 1, 0x50, 0x40), -100);
    }

    private static void kindFive() {
        due.sentence("5 x gets DATA word (t + o) modulo 8 more.");
        TrialBook x = new TrialBook();
        for (int i = 0; i < 8; i++) {
            x.data(i, 1 << 3 * i);
        }
        for (int o = 0; o < 16; o++) {
            Books.steps(x, 0, 0x50 + o);
            int r = x.run(0, 0, 0, 16);
            int word = o < 8 ? o : o - 8;
            int sum = 0;
            for (int t = 0; t < 16; t++) {
                sum += 1 << 3 * word;
                due.is("o " + o + ", tick " + t, x.of(r, 100 + t), sum);
                word = word == 7 ? 0 : word + 1;
            }
        }
    }

    private static void kindSix() {
        due.sentence("6 x gets THE CLOCK more.");
        TrialBook x = new TrialBook();
        due.is("whatever o is", Books.end(x, 0, 0, 1, 0x6F), 1);
        due.is("once a step", Books.end(x, 0, 0, 2, 0x60, 0x61), 8);
    }

    private static void kindSeven() {
        due.sentence("7 x is turned left by o bits.");
        TrialBook x = new TrialBook();
        x.data(0, 0x80000001);
        due.is("o 0", Books.end(x, 0, 0, 1, 0x50, 0x70), 0x80000001);
        due.is("o 1", Books.end(x, 0, 0, 1, 0x50, 0x71), 0x00000003);
        due.is("o 15", Books.end(x, 0, 0, 1, 0x50, 0x7F), 0x0000C000);
        due.is("32 in all", Books.end(x, 0, 0, 1, 0x50, 0x7F, 0x7F, 0x72), 0x80000001);
        x.data(0, -1);
        due.is("all bits", Books.end(x, 0, 0, 1, 0x50, 0x7D), -1);
    }

    private static void kindEight() {
        due.sentence("8 x becomes what is left of it by o + 2 (with its sign).");
        TrialBook x = new TrialBook();
        int[][] rows = {
            {17, 0, 1}, {17, 14, 1}, {17, 15, 0}, {16, 15, 16}, {-17, 0, -1}, {-17, 14, -1}, {-17, 15, 0}, {-16, 15, -16},
            {LEAST, 0, 0}, {LEAST, 15, -9}, {MOST, 0, 1}, {MOST, 15, 8}, {0, 0, 0}, {-1, 0, -1}};
        for (int[] row : rows) {
            x.data(0, row[0]);
            due.is(row[0] + " by " + (row[1] + 2), Books.end(x, 0, 0, 1, 0x50, 0x80 + row[1]), row[2]);
        }
    }

    private static void kindNine() {
        due.sentence("9 if what is left of x by o + 1 is 0, the run is BROKEN");
        TrialBook x = new TrialBook();
        int[][] rows = {
            {5, 0, 1}, {0, 0, 1}, {0, 15, 1}, {16, 15, 1}, {15, 15, 0}, {17, 15, 0}, {15, 14, 1}, {-16, 15, 1}, {-15, 15, 0},
            {1, 1, 0}, {2, 1, 1}, {LEAST, 15, 1}, {LEAST, 14, 0}, {MOST, 1, 0}, {MOST, 0, 1}, {-1, 0, 1}};
        for (int[] row : rows) {
            x.data(0, row[0]);
            Books.steps(x, 0, 0x50, 0x90 + row[1]);
            int r = x.run(0, 0, 0, 1);
            due.is(row[0] + " by " + (row[1] + 1), x.of(r, 5), row[2]);
        }
    }

    private static void rowsOfTheBroken() {
        due.sentence("it has the ROWS ahead of this tick alone");
        TrialBook x = new TrialBook();
        Books.steps(x, 0, 0x90);
        x.run(0, 0, 0, 16);
        due.is("broken at tick 0, how many", x.of(0, 4), 0);
        due.is("row 0", x.of(0, 100), NONE);
        Books.steps(x, 0, 0x01, 0x9F);
        x.run(0, 0, 0, 16);
        due.is("broken at the last tick", x.of(1, 5), 1);
        due.is("how many", x.of(1, 4), 15);
        due.is("row 14", x.of(1, 114), 15);
        due.is("row 15", x.of(1, 115), NONE);
        x.run(0, 0, 0, 15);
        due.is("with a tick less it is not", x.of(2, 5), 0);
        due.is("and has all", x.of(2, 4), 15);
        Books.steps(x, 0, 0x01, 0x92);
        x.run(0, 0, 0, 16);
        due.is("it does not go on behind the break", x.of(3, 4), 2);
        due.is("its last row", x.of(3, 101), 2);
        due.is("T stays", x.of(3, 3), 16);
    }

    private static void otherKinds() {
        due.sentence("Others do nothing.");
        for (int kind = 10; kind < 16; kind++) {
            TrialBook x = new TrialBook();
            x.data(0, 1);
            for (int o = 0; o < 16; o++) {
                due.is("kind " + kind + ", o " + o, Books.end(x, 0x5555, 99, 2, 0x07, 16 * kind + o), 14);
                due.is("not broken", x.of(o, 5), 0);
                due.is("nothing read", x.of(o, 8) + x.of(o, 9) + x.of(o, 10) + x.of(o, 11), 0);
            }
        }
    }

    private static void wrapping() {
        due.sentence("Ints wrap.");
        TrialBook x = new TrialBook();
        x.data(0, MOST);
        x.data(1, MOST);
        due.is("most and 1", Books.end(x, 0, 0, 1, 0x50, 0x01), LEAST);
        due.is("most times 15", Books.end(x, 0, 0, 1, 0x50, 0x1F), 0x7FFFFFF1);
        due.is("most and a setting", Books.end(x, 5, 0, 1, 0x50, 0x20), LEAST + 4);
        due.is("most and most", Books.end(x, 0, 0, 2, 0x50), -2);
        due.is("most and the clock", Books.end(x, 0, 0, 1, 0x50, 0x60), LEAST + 4);
        x.data(0, LEAST);
        x.data(1, -1);
        due.is("least and -1", Books.end(x, 0, 0, 2, 0x50), MOST);
        due.is("least times 2", Books.end(x, 0, 0, 1, 0x50, 0x12), 0);
    }

    private static void reading() {
        due.sentence("just as far as a STEP that was done used it");
        TrialBook x = new TrialBook();
        // Setting 0 leaves out, in turn, setting 1, the seed and the clock; at the end a word.
        Books.steps(x, 0, 0x30, 0x21, 0x30, 0x40, 0x30, 0x60, 0x30, 0x50);
        x.run(0, 0x0001, 9, 2);
        due.is("left out: settings", x.of(0, 8), 1);
        due.is("left out: words", x.of(0, 9), 0);
        due.is("left out: the seed", x.of(0, 10), 0);
        due.is("left out: the clock", x.of(0, 11), 0);
        x.run(0, 0x0000, 9, 2);
        due.is("done: settings", x.of(1, 8), 3);
        due.is("done: words", x.of(1, 9), 3);
        due.is("done: the seed", x.of(1, 10), 1);
        due.is("done: the clock", x.of(1, 11), 1);
        Books.steps(x, 0, 0x23, 0x57, 0x90, 0x22, 0x40, 0x50, 0x60);
        x.run(0, 0x0000, 9, 2);
        due.is("ahead of the break and behind it: settings", x.of(2, 8), 8);
        due.is("words", x.of(2, 9), 128);
        due.is("the seed", x.of(2, 10), 0);
        due.is("the clock", x.of(2, 11), 0);
        Books.steps(x, 0, 0x56);
        x.run(0, 0, 0, 1);
        due.is("one tick", x.of(3, 9), 64);
        x.run(0, 0, 0, 3);
        due.is("three ticks", x.of(4, 9), 64 + 128 + 1);
        x.run(0, 0, 0, 8);
        due.is("eight ticks", x.of(5, 9), 255);
        Books.steps(x, 0, 0x22, 0x40, 0x50, 0x60, 0x10);
        x.run(0, 0, 0, 1);
        due.is("used, though nothing comes of it", x.of(6, 8) + x.of(6, 9) + x.of(6, 10) + x.of(6, 11), 4 + 1 + 1 + 1);
        Books.steps(x, 0, 0x01, 0x33);
        x.run(0, 0, 0, 1);
        due.is("a setting that is looked at", x.of(7, 8), 8);
        TrialBook y = new TrialBook();
        y.data(0, 7);
        Books.steps(y, 0, 0x50);
        y.run(0, 0, 0, 1);
        y.data(0, 8);
        due.sentence("DATA words (as they were)");
        due.is("7 is not 8", y.loose(0), 1);
        due.is("its row is as it was", y.of(0, 100), 7);
    }

    private static void fortyRuns() {
        due.sentence("RUNS are numbered as they are done (40 at most).");
        TrialBook x = new TrialBook();
        for (int r = 0; r < 39; r++) {
            due.is("run " + r, r % 2 == 0 ? x.run(0, 0, 0, 1) : x.fork(r - 1, 0, 0, 0), r);
        }
        x.again(0);
        due.is("a repeat has no number", x.fork(0, 1, 0, 0), 39);
        due.is("the 41st", x.run(0, 0, 0, 1), NONE);
        due.is("the 41st, a fork", x.fork(39, 0, 0, 0), NONE);
        due.is("the 40th is there", x.of(39, 6), 0);
        due.is("the 41st is not", x.of(40, 0), NONE);
    }

    private static void forkTicks() {
        due.sentence("A FORK of RUN r at tick t goes on from its x behind t ticks, with other SETTINGS and SEED");
        TrialBook x = new TrialBook();
        Books.steps(x, 0, 0x12, 0x20, 0x40);
        x.run(0, 0x0001, 0, 16);
        // Row t is 2 to the (t + 1), less 1.
        x.fork(0, 0, 0x0002, 0);
        due.is("at tick 0 from 0 on", x.of(1, 100), 2);
        x.fork(0, 1, 0x0002, 0);
        due.is("at tick 1 from row 0 on", x.of(2, 101), 4);
        x.fork(0, 15, 0x0002, 1);
        due.is("at tick 15 from row 14 on", x.of(3, 115), (2 * 32767 + 2) ^ 1);
        due.sentence("up to r's T");
        due.is("T", x.of(1, 3), 16);
        due.is("rows", x.of(1, 4), 16);
        due.sentence("(the ROWS ahead of t are r's");
        due.is("row 14 of the last", x.of(3, 114), 32767);
        due.is("row 0 of the one at 1", x.of(2, 100), 1);
        x.fork(0, 16, 0x0005, 9);
        due.is("at tick 16 all are", x.of(4, 115), 65535);
        due.is("and no more", x.of(4, 4), 16);
        x.run(0, 0x0001, 0, 1);
        due.is("one row: at 0", x.fork(5, 0, 0, 0), 6);
        due.is("one row: at 1", x.fork(5, 1, 0, 0), 7);
        due.is("one row: at 2", x.fork(5, 2, 0, 0), NONE);
        due.is("the same settings and seed will do", x.fork(0, 3, 0x0001, 0), 8);
        due.is("then all is as it was", x.of(8, 115), 65535);
    }

    private static void forkReads() {
        due.sentence("its READ is all that r READ and its own");
        TrialBook x = new TrialBook();
        // With setting 0 above 0 setting 1 is left out.
        Books.steps(x, 0, 0x30, 0x21, 0x50);
        x.run(0, 0x0000, 0, 4);
        Books.steps(x, 0, 0x60, 0x40);
        x.run(0, 0x0000, 0, 1);
        x.fork(0, 0, 0x0001, 0);
        due.is("at 0: settings of r too", x.of(2, 8), 3);
        due.is("at 0: words", x.of(2, 9), 15);
        x.fork(0, 4, 0x0001, 0);
        due.is("at the end: settings", x.of(3, 8), 3);
        due.is("at the end: words, those behind the tick too", x.of(3, 9), 15);
        x.fork(1, 1, 0, 0);
        due.is("the seed that r read", x.of(4, 10), 1);
        due.is("the clock that r read", x.of(4, 11), 1);
        Books.steps(x, 0, 0x30, 0x21);
        x.run(0, 0x0001, 0, 1);
        x.fork(5, 0, 0x0000, 0);
        due.is("its own", x.of(6, 8), 3);
        due.is("r's are not more by it", x.of(5, 8), 1);
        due.sentence("DATA words as it READ them itself, if it did");
        TrialBook y = new TrialBook();
        Books.steps(y, 0, 0x50);
        y.run(0, 0, 0, 8);
        for (int i = 0; i < 8; i++) {
            y.data(i, 1);
        }
        y.fork(0, 5, 0, 0);
        due.is("0 to 4 as r read them, 5 to 7 as it did", y.loose(1), 31);
        due.is("r as it was", y.loose(0), 255);
        y.fork(1, 7, 0, 0);
        due.is("a fork of a fork has its own", y.loose(2), 31);
    }

    private static void forkCode() {
        due.sentence("it has r's CODE as it was");
        TrialBook x = new TrialBook();
        Books.steps(x, 2, 0x01);
        x.run(2, 0, 0, 3);
        Books.steps(x, 2, 0x0F);
        x.fork(0, 1, 0, 0);
        due.is("code", x.of(1, 0), 2);
        due.is("rows by the steps as they were", x.of(1, 102), 3);
        due.is("stale from its beginning", x.of(1, 12), 1);
        Books.steps(x, 2, 0x01);
        due.is("no longer", x.of(1, 12), 0);
    }

    private static void doneAgain() {
        due.sentence("DONE AGAIN is a RUN by its own CODE as it was, SETTINGS, SEED, T");
        TrialBook x = new TrialBook();
        Books.steps(x, 0, 0x20, 0x40);
        x.run(0, 0x0003, 8, 4);
        Books.steps(x, 0);
        x.bound(0, 1);
        due.is("with another code now", x.again(0), 4);
        due.sentence("with DATA and THE CLOCK as they are now");
        Books.steps(x, 0, 0x50);
        x.run(0, 0, 0, 16);
        x.data(7, 1);
        due.is("word 7", x.again(1), 7);
        x.data(7, 0);
        due.is("changed back", x.again(1), 16);
        Books.steps(x, 0, 0x60);
        x.run(0, 0, 0, 3);
        due.is("the clock", x.again(2), 0);
        due.is("the run stays as it was", x.of(2, 102), 18);
        Books.steps(x, 0, 0x60, 0x81);
        x.run(0, 0, 0, 1);
        due.is("what is left of 8 by 3", x.of(3, 100), 2);
        due.is("at 9", x.again(3), 0);
        due.is("at 10", x.again(3), 0);
        due.is("at 11 all is the same", x.again(3), 1);
    }

    private static void doneAgainFork() {
        due.sentence("(a FORK from its r's x on)");
        TrialBook x = new TrialBook();
        Books.steps(x, 0, 0x50, 0x20);
        x.data(0, 3);
        x.run(0, 0x0000, 0, 4);
        x.fork(0, 1, 0x0002, 0);
        x.data(0, 4);
        due.is("what r read ahead of it is not done again", x.again(1), 4);
        due.is("for r it is", x.again(0), 0);
        x.data(1, 4);
        due.is("from its tick on it is", x.again(1), 1);
        x.fork(0, 0, 0x0000, 0);
        x.data(0, 5);
        due.is("at tick 0 from 0 on", x.again(2), 0);
        x.fork(0, 4, 0x0000, 0);
        x.data(3, 9);
        due.is("at the end nothing is left to do", x.again(3), 4);
    }

    private static void loose() {
        due.sentence("DATA word i counts 2 to the i, THE CLOCK, if READ, 256");
        TrialBook x = new TrialBook();
        Books.steps(x, 0, 0x50);
        x.run(0, 0, 0, 8);
        Books.steps(x, 0, 0x50, 0x60);
        x.run(0, 0, 0, 8);
        due.is("nothing", x.loose(0), 0);
        due.is("the clock, though it is the same yet", x.loose(1), 256);
        for (int i = 0; i < 8; i++) {
            x.data(i, MOST);
            due.is("word " + i, x.loose(0), 1 << i);
            due.is("word " + i + " and the clock", x.loose(1), 256 + (1 << i));
            x.data(i, 0);
        }
        for (int i = 0; i < 8; i++) {
            x.data(i, LEAST);
        }
        due.is("all words", x.loose(0), 255);
        due.is("all", x.loose(1), 511);
        due.sentence("what was READ and is not as it was");
        x.run(0, 0, 0, 2);
        x.data(2, 5);
        due.is("not read", x.loose(2), 256);
    }

    private static void stale() {
        due.sentence("STALE is a RUN whose CODE is another one now");
        TrialBook x = new TrialBook();
        Books.steps(x, 1, 0x01, 0xA0);
        x.run(1, 0, 0, 1);
        Books.steps(x, 1, 0x01);
        due.is("a step less", x.of(0, 12), 1);
        Books.steps(x, 1, 0x01, 0xA0, 0xA0);
        due.is("a step more", x.of(0, 12), 1);
        Books.steps(x, 1, 0x00, 0x01, 0xA0);
        due.is("a step more at the head, of 0", x.of(0, 12), 1);
        Books.steps(x, 1, 0x01, 0xA1);
        due.is("another operand, though it does the same", x.of(0, 12), 1);
        Books.steps(x, 1, 0xA0, 0x01);
        due.is("another order", x.of(0, 12), 1);
        Books.steps(x, 0, 0x01, 0xA0);
        due.is("such steps under another number", x.of(0, 12), 1);
        Books.steps(x, 2, 0x02);
        x.run(2, 0, 0, 1);
        Books.steps(x, 1, 0x02);
        due.is("another code is changed", x.of(1, 12), 0);
        Books.steps(x, 2);
        due.is("no steps", x.of(1, 12), 1);
        due.sentence("or that READ a DATA word that is another one now");
        Books.steps(x, 3, 0x57);
        x.run(3, 0, 0, 1);
        x.data(0, 1);
        due.is("a word that it did not read", x.of(2, 12), 0);
        x.data(7, LEAST);
        due.is("a word that it read", x.of(2, 12), 1);
        due.sentence("(What was changed and changed back is not another one.)");
        x.data(7, 0);
        due.is("the word", x.of(2, 12), 0);
        due.is("the steps, with other bytes behind them", x.code(1, 2, 0x01A0FFFF, -1), true);
        due.is("are the same", x.of(0, 12), 0);
        x.code(2, 8, 0x02000000, 0);
        due.is("steps that do nothing are steps", x.of(1, 12), 1);
    }

    private static void saved() {
        due.sentence("the least RUN");
        TrialBook x = new TrialBook();
        Books.steps(x, 0, 0x20);
        x.run(0, 0x0001, 0, 2);
        x.run(0, 0x0000, 0, 3);
        x.run(0, 0x0000, 0, 5);
        x.run(0, 0x0000, 0, 4);
        due.is("of two that would do", x.saved(0, 0, 0, 4), 2);
        due.sentence("T ticks at least");
        due.is("just as many", x.saved(0, 0, 0, 5), 2);
        due.is("one more", x.saved(0, 0, 0, 6), NONE);
        due.is("one", x.saved(0, 0, 0, 1), 1);
        due.sentence("no FORK, not BROKEN, did not READ THE CLOCK");
        x.fork(0, 0, 0x0003, 0);
        due.is("a fork, at tick 0 too", x.saved(0, 0x0003, 0, 2), NONE);
        Books.steps(x, 1, 0x01, 0x93);
        x.run(1, 0, 0, 4);
        due.is("broken, for the ticks ahead too", x.saved(1, 0, 0, 1), NONE);
        x.run(1, 0, 0, 3);
        due.is("one that ends ahead of the break", x.saved(1, 0, 0, 1), 6);
        Books.steps(x, 2, 0x60, 0x10);
        x.run(2, 0, 0, 1);
        due.is("the clock, though nothing came of it", x.saved(2, 0, 0, 1), NONE);
        due.sentence("has such STEPS");
        Books.steps(x, 3, 0x20);
        due.is("under another number", x.saved(3, 0, 0, 1), 1);
        Books.steps(x, 3, 0x24);
        due.is("steps that do the same are others", x.saved(3, 0, 0, 1), NONE);
        due.sentence("and READ nothing that is another one here and now");
        due.is("settings that it did not read", x.saved(0, 0x5550, 99, 1), 1);
        due.is("the setting that it read", x.saved(0, 0x0002, 0, 1), NONE);
        Books.steps(x, 3, 0x40, 0x50);
        x.run(3, 0, 99, 2);
        due.is("its seed", x.saved(3, 0, 99, 1), 8);
        due.is("another seed", x.saved(3, 0, 98, 1), NONE);
        x.data(1, 1);
        due.is("a word of a tick that is not asked for", x.saved(3, 0, 99, 1), NONE);
        x.data(1, 0);
        due.is("changed back", x.saved(3, 0, 99, 1), 8);
        x.data(2, 1);
        due.is("a word that it did not read", x.saved(3, 0, 99, 2), 8);
    }

    private static void savedRows() {
        due.sentence("A RUN of this would have its first T ROWS.");
        TrialBook x = new TrialBook();
        x.data(3, -7);
        Books.steps(x, 0, 0x31, 0x20, 0x50, 0x86);
        x.run(0, 0x0015, 4, 16);
        int r = x.saved(0, 0x5512, 77, 9);
        due.is("saved", r, 0);
        int done = x.run(0, 0x5512, 77, 9);
        for (int t = 0; t < 9; t++) {
            due.is("row " + t, x.of(done, 100 + t), x.of(r, 100 + t));
        }
    }

    private static void pairsAreAlike() {
        due.sentence("two RUNS p, q that COUNT, with T ticks, alike in STEPS, the SEED, all other SETTINGS");
        TrialBook x = new TrialBook();
        Books.steps(x, 0, 0x20);
        x.run(0, 0x0000, 0, 16);
        x.run(0, 0x0001, 0, 15);
        due.is("a tick less", x.pairs(0, 0, 1, 16, 0) + x.pairs(0, 0, 1, 15, 0), 0);
        x.run(0, 0x0001, 99, 16);
        due.is("another seed, though none was read", x.pairs(0, 0, 1, 16, 0), 0);
        for (int i = 1; i < 4; i++) {
            x.run(0, 1 + (1 << 4 * i), 0, 16);
            due.is("another setting " + i + ", though it was not read", x.pairs(0, 0, 1, 16, 0), 0);
        }
        Books.steps(x, 0, 0x20, 0xA0);
        x.run(0, 0x0001, 0, 16);
        due.is("another code", x.pairs(0, 0, 1, 16, 0), 0);
        Books.steps(x, 3, 0x20);
        x.run(3, 0x0001, 0, 16);
        due.is("the same steps under another number", x.pairs(0, 0, 1, 16, 0), 1);
        due.is("stale by code, but a pair", x.of(0, 12), 1);
        due.sentence("SETTING i is u in p, v in q");
        due.is("p", x.pair(0, 0, 1, 16, 0, 0), 0);
        due.is("q", x.pair(0, 0, 1, 16, 0, 1), 7);
        due.is("the other way, p", x.pair(0, 1, 0, 16, 0, 0), 7);
        due.is("other values", x.pairs(0, 0, 2, 16, 0) + x.pairs(0, 2, 1, 16, 0), 0);
        TrialBook y = new TrialBook();
        y.run(0, 0x0000, 0, 1);
        y.run(0, 0x5000, 0, 1);
        due.is("setting 3 from 0 to 5, though not read", y.pairs(3, 0, 5, 1, 0), 1);
    }

    private static void pairsByWords() {
        due.sentence("and each DATA word that both READ");
        TrialBook x = new TrialBook();
        // At 0 words 0 and 1 are read, at 1 word 1 alone.
        Books.steps(x, 0, 0x30, 0x50, 0x51);
        x.run(0, 0, 0, 1);
        x.data(0, 1);
        x.run(0, 1, 0, 1);
        due.is("a word that one of them read", x.pairs(0, 0, 1, 1, 0), 1);
        x.data(1, 1);
        x.run(0, 0, 0, 1);
        due.is("one that both read", x.pairs(0, 0, 1, 1, 0), 1);
        x.run(0, 1, 0, 1);
        due.is("each with its like", x.pairs(0, 0, 1, 1, 0), 2);
        x.data(7, 1);
        x.run(0, 1, 0, 1);
        due.is("a word that none of them read", x.pairs(0, 0, 1, 1, 0), 2);
        Books.steps(x, 0, 0x57);
        x.run(0, 0, 0, 1);
        x.data(7, 2);
        x.run(0, 1, 0, 1);
        due.is("word 7", x.pairs(0, 0, 1, 1, 0), 2);
    }

    private static void counting() {
        due.sentence("A RUN COUNTS, if it is no FORK, not BROKEN, did not READ THE CLOCK");
        TrialBook x = new TrialBook();
        Books.steps(x, 0, 0x20);
        x.run(0, 0, 0, 1);
        x.fork(0, 0, 1, 0);
        due.is("a fork", x.pairs(0, 0, 1, 1, 0), 0);
        Books.steps(x, 0, 0x20, 0x60, 0x10);
        x.run(0, 0, 0, 1);
        x.run(0, 1, 0, 1);
        due.is("the clock, though nothing came of it", x.pairs(0, 0, 1, 1, 0), 0);
        Books.steps(x, 0, 0x01, 0x34, 0x91);
        x.run(0, 2, 0, 2);
        x.run(0, 0, 0, 2);
        due.is("broken", x.of(5, 5), 1);
        due.is("broken behind a row", x.pairs(0, 0, 2, 2, 0) + x.pairs(0, 0, 2, 1, 0), 0);
        due.sentence("and no lesser one that COUNTS is like it");
        Books.steps(x, 0, 0x20);
        x.run(0, 1, 0, 1);
        due.is("a lesser fork does not count", x.pair(0, 0, 1, 1, 0, 1), 6);
        x.run(0, 1, 0, 1);
        x.run(0, 0, 0, 1);
        due.is("like ones count once", x.pairs(0, 0, 1, 1, 0), 1);
        due.is("the least p", x.pair(0, 0, 1, 1, 0, 0), 0);
        due.is("the least q", x.pair(0, 0, 1, 1, 0, 1), 6);
        due.sentence("like it in STEPS, SETTINGS, SEED, T, the set of DATA words READ, and these words");
        Books.steps(x, 0, 0x20, 0x50);
        x.run(0, 0, 0, 1);
        x.run(0, 1, 0, 1);
        due.is("other steps", x.pairs(0, 0, 1, 1, 0), 2);
        x.run(0, 0x1000, 0, 1);
        x.run(0, 0x1001, 0, 1);
        due.is("other settings", x.pairs(0, 0, 1, 1, 0), 3);
        x.run(0, 0, 1, 1);
        x.run(0, 1, 1, 1);
        due.is("another seed", x.pairs(0, 0, 1, 1, 0), 4);
        x.run(0, 0, 0, 2);
        x.run(0, 1, 0, 2);
        due.is("another T", x.pairs(0, 0, 1, 2, 0), 1);
        x.data(0, 1);
        x.run(0, 0, 0, 1);
        x.run(0, 1, 0, 1);
        due.is("another word", x.pairs(0, 0, 1, 1, 0), 5);
        x.data(0, 0);
        x.run(0, 0, 0, 1);
        x.run(0, 1, 0, 1);
        due.is("the word of a lesser one again", x.pairs(0, 0, 1, 1, 0), 5);
    }

    private static void order() {
        due.sentence("Ordered by p, then q.");
        TrialBook x = new TrialBook();
        // At 1 word 0 is left out, so that one run at 1 pairs with all at 0 of its seed.
        Books.steps(x, 0, 0x30, 0x50);
        x.run(0, 1, 9, 1);
        x.run(0, 0, 5, 1);
        x.run(0, 0, 9, 1);
        x.data(0, 1);
        x.run(0, 0, 5, 1);
        x.run(0, 1, 5, 1);
        x.run(0, 0, 9, 1);
        int[][] up = {{1, 4}, {2, 0}, {3, 4}, {5, 0}};
        int[][] down = {{0, 2}, {0, 5}, {4, 1}, {4, 3}};
        for (int k = 0; k < 4; k++) {
            due.is("p " + k, x.pair(0, 0, 1, 1, k, 0), up[k][0]);
            due.is("q " + k, x.pair(0, 0, 1, 1, k, 1), up[k][1]);
            due.is("the other way, p " + k, x.pair(0, 1, 0, 1, k, 0), down[k][0]);
            due.is("the other way, q " + k, x.pair(0, 1, 0, 1, k, 1), down[k][1]);
        }
        due.is("no more", x.pair(0, 0, 1, 1, 4, 0), NONE);
    }

    /** A book with one pair by setting 0, whose last rows are these. */
    private static TrialBook withPair(int first, int second) {
        TrialBook x = new TrialBook();
        // Word 1, and at 0 word 0 more.
        Books.steps(x, 0, 0x30, 0x50, 0x51);
        x.data(0, first - second);
        x.data(1, second);
        x.run(0, 0x0000, 0, 1);
        x.run(0, 0x0001, 0, 1);
        return x;
    }

    private static void winning() {
        due.sentence("Q WINS, if its last ROW is greater, LOSES, if it is less.");
        int[][] rows = {
            {LEAST, MOST, 1}, {MOST, LEAST, -1}, {-1, 0, 1}, {0, -1, -1}, {LEAST, LEAST + 1, 1}, {MOST, MOST - 1, -1},
            {0, LEAST, -1}, {0, MOST, 1}, {MOST, MOST, 0}, {LEAST, LEAST, 0}, {-1, -1, 0}};
        for (int[] row : rows) {
            TrialBook x = withPair(row[0], row[1]);
            String what = row[0] + " and " + row[1];
            due.is(what + ": p's row", x.of(0, 100), row[0]);
            due.is(what + ": q's row", x.of(1, 100), row[1]);
            due.is(what + ": a pair", x.pairs(0, 0, 1, 1, 0), 1);
            due.is(what + ": won", x.pairs(0, 0, 1, 1, 1), row[2] > 0 ? 1 : 0);
            due.is(what + ": lost", x.pairs(0, 0, 1, 1, 2), row[2] < 0 ? 1 : 0);
        }
        TrialBook x = new TrialBook();
        Books.steps(x, 0, 0x20, 0x81);
        x.run(0, 0x0001, 0, 3);
        x.run(0, 0x0002, 0, 3);
        x.run(0, 0x0001, 0, 2);
        x.run(0, 0x0002, 0, 2);
        due.is("its last row, not the first: a tie", x.pairs(0, 1, 2, 3, 1) + x.pairs(0, 1, 2, 3, 2), 0);
        due.is("its last row, not the first: lost", x.pairs(0, 1, 2, 2, 2), 1);
    }

    /** So many pairs by setting 0, 0 against 1, won, lost and tied, of one tick; 20 at most. */
    private static TrialBook withSigns(int won, int lost, int ties) {
        TrialBook x = new TrialBook();
        for (int n = 0; n < won + lost + ties; n++) {
            if (n < won) {
                Books.steps(x, 0, 0x20);
            } else if (n < won + lost) {
                Books.steps(x, 0, 0x30, 0x01);
            } else {
                Books.steps(x, 0);
            }
            x.run(0, 0, n, 1);
            x.run(0, 1, n, 1);
        }
        return x;
    }

    private static void sureEdges() {
        due.sentence("M times R times (the sum of n over k, k from w to n) is at most 2 to the n");
        // {won, lost, the greatest M times R that is sure}
        int[][] rows = {
            {0, 0, 1}, {1, 0, 2}, {0, 1, 1}, {2, 0, 4}, {1, 1, 1}, {3, 1, 3}, {2, 2, 1}, {4, 1, 5}, {5, 0, 32}, {10, 0, 1024},
            {9, 1, 93}, {8, 2, 18}, {0, 10, 1}, {20, 0, 1048576}, {19, 1, 49932}};
        for (int[] row : rows) {
            TrialBook x = withSigns(row[0], row[1], 0);
            String what = row[0] + " won, " + row[1] + " lost";
            due.is(what + ": R at the edge", x.sure(0, 0, 1, 1, 1, Math.min(1000000, row[2])), 1);
            if (row[2] < 1000000) {
                due.is(what + ": R above", x.sure(0, 0, 1, 1, 1, row[2] + 1), 0);
            }
            if (row[2] < 1000) {
                due.is(what + ": M at the edge", x.sure(0, 0, 1, 1, row[2], 1), 1);
                due.is(what + ": M above", x.sure(0, 0, 1, 1, row[2] + 1, 1), 0);
            }
        }
        due.is("1024 times 1024", withSigns(20, 0, 0).sure(0, 0, 1, 1, 512, 2048), 1);
        due.is("a little more", withSigns(20, 0, 0).sure(0, 0, 1, 1, 512, 2049), 0);
        due.sentence("with n PAIRS that are no ties");
        TrialBook x = withSigns(3, 0, 10);
        due.is("ties are not counted", x.sure(0, 0, 1, 1, 1, 8), 1);
        due.is("for neither side", x.sure(0, 0, 1, 1, 1, 9), 0);
        due.is("ties alone", withSigns(0, 0, 4).sure(0, 0, 1, 1, 1, 2), 0);
        due.sentence("SURE at 1 in R (1 .. 1000000) among M comparisons (1 .. 1000)");
        due.is("R 0", x.sure(0, 0, 1, 1, 1, 0), NONE);
        due.is("R 1", x.sure(0, 0, 1, 1, 1, 1), 1);
        due.is("R 1000000", x.sure(0, 0, 1, 1, 1, 1000000), 0);
        due.is("R 1000001", x.sure(0, 0, 1, 1, 1, 1000001), NONE);
        due.is("M 0", x.sure(0, 0, 1, 1, 0, 1), NONE);
        due.is("M 1000", x.sure(0, 0, 1, 1, 1000, 1), 0);
        due.is("M 1001", x.sure(0, 0, 1, 1, 1001, 1), NONE);
    }

    private static void thirtySigns() {
        due.sentence("(n 30 at most: more are not told.)");
        due.is("30", Books.withMany(30, 0, false).sure(0, 0, 1, 1, 1000, 1000000), 1);
        due.is("31", Books.withMany(31, 0, false).sure(0, 0, 1, 1, 1, 1), NONE);
        due.is("30 won, 1 lost", Books.withMany(30, 1, false).sure(0, 0, 1, 1, 1, 1), NONE);
        due.is("31 lost", Books.withMany(0, 31, false).sure(0, 0, 1, 1, 1, 1), NONE);
        due.is("39", Books.withMany(20, 19, false).sure(0, 0, 1, 1, 1, 1), NONE);
        due.is("30 and a tie", Books.withMany(30, 0, true).pairs(0, 0, 1, 1, 0), 31);
        due.is("a tie is not one of n", Books.withMany(30, 0, true).sure(0, 0, 1, 1, 1000, 1000000), 1);
        due.is("30 lost, at the most", Books.withMany(0, 30, false).sure(0, 0, 1, 1, 1000, 1000000), 0);
        due.is("30 lost, at 1", Books.withMany(0, 30, false).sure(0, 0, 1, 1, 1, 1), 1);
        // 30 over 29 and 30 over 30 make 31; 2 to the 30 by 31 is 34636833 and some.
        due.is("29 of 30", Books.withMany(29, 1, false).sure(0, 0, 1, 1, 37, 936130), 1);
        due.is("29 of 30, above", Books.withMany(29, 1, false).sure(0, 0, 1, 1, 37, 936131), 0);
        // The half of 2 to the 30, and half of 30 over 15, are above the half.
        due.is("15 of 30", Books.withMany(15, 15, false).sure(0, 0, 1, 1, 1, 1), 1);
        due.is("15 of 30 at 2", Books.withMany(15, 15, false).sure(0, 0, 1, 1, 1, 2), 0);
    }

    private static void holes() {
        due.sentence("SETTINGS, each below its BOUND (1 .. 6, at first 2), and a SEED, for which there is no SAVED RUN");
        TrialBook x = new TrialBook();
        due.is("at first", x.holes(0, 1, 1), 16);
        due.is("the last", x.hole(0, 1, 1, 15, 0), 0x1111);
        for (int i = 0; i < 4; i++) {
            x.bound(i, 1);
        }
        due.is("all 1", x.holes(0, 1, 1), 1);
        due.is("that one", x.hole(0, 1, 1, 0, 0), 0);
        for (int i = 0; i < 4; i++) {
            x.bound(i, 6);
            due.is("bound " + i + " is 6", x.hole(0, 1, 1, 5, 0), 5 << 4 * i);
        }
        due.is("all 6", x.holes(0, 1, 1), 1296);
        due.sentence("SEEDS 0 .. s - 1");
        Books.steps(x, 0, 0x40);
        x.run(0, 0, 3, 1);
        due.is("seed 3 of 4", x.holes(0, 1, 4), 1296 * 3);
        due.is("seed 3 of 3", x.holes(0, 1, 3), 1296 * 3);
        x.run(0, 0, 0, 1);
        due.is("seeds 0 and 3 of 4", x.holes(0, 1, 4), 1296 * 2);
        due.is("the first is seed 1", x.hole(0, 1, 4, 0, 1), 1);
        due.is("seed 0 of 1", x.holes(0, 1, 1), 0);
        x.run(0, 0, 8, 1);
        due.is("seed 8 is none of 8", x.holes(0, 1, 8), 1296 * 6);
        due.sentence("of a CODE as it is now");
        Books.steps(x, 0, 0x41);
        due.is("another code", x.holes(0, 1, 1), 1296);
        Books.steps(x, 2, 0x40);
        due.is("such steps under another number", x.holes(2, 1, 1), 0);
    }

    private static void holesOrder() {
        due.sentence("Ordered by SETTING 0, 1, 2, 3, then the SEED, the lesser first.");
        TrialBook x = new TrialBook();
        int[] bounds = {3, 1, 2, 4};
        for (int i = 0; i < 4; i++) {
            x.bound(i, bounds[i]);
        }
        int j = 0;
        for (int cell = 0; cell < 3 * 2 * 4; cell++) {
            int settings = cell / 8 + (cell / 4 % 2 << 8) + (cell % 4 << 12);
            for (int seed = 0; seed < 3; seed++) {
                due.is("settings of " + j, x.hole(1, 16, 3, j, 0), settings);
                due.is("seed of " + j, x.hole(1, 16, 3, j, 1), seed);
                j++;
            }
        }
        due.is("no more", x.hole(1, 16, 3, j, 0), NONE);
    }

    private static void idle() {
        due.sentence("IDLE is a SETTING that no RUN READ, of those that are there.");
        for (int i = 0; i < 4; i++) {
            TrialBook x = new TrialBook();
            Books.steps(x, 0, 0x20 + i);
            due.is("a code alone reads none", x.idle(), 15);
            x.run(0, 0, 0, 1);
            due.is("all but " + i, x.idle(), 15 - (1 << i));
            Books.steps(x, 0);
            due.is("though its code is gone", x.idle(), 15 - (1 << i));
        }
    }

    private static void idleByAll() {
        due.sentence("that no RUN READ");
        TrialBook x = new TrialBook();
        Books.steps(x, 0, 0x22);
        x.run(0, 0, 0, 1);
        Books.steps(x, 0, 0x31);
        x.run(0, 0, 0, 1);
        for (int r = 2; r < 40; r++) {
            x.run(1, 0, 0, 1);
        }
        due.is("the first two of 40 read 2 and 1", x.idle(), 15 - 4 - 2);
    }

    private static void twentyClaims() {
        due.sentence("A CLAIM (20 at most)");
        TrialBook x = new TrialBook();
        x.run(0, 0, 0, 1);
        x.run(0, 0, 0, 1);
        for (int i = 0; i < 20; i++) {
            due.is("claim " + i, x.claim(i % 2), i);
        }
        due.is("the 21st", x.claim(0), NONE);
        due.is("claim 19", x.claimed(19, 0), 1);
        due.is("claim 20", x.claimed(20, 0), NONE);
    }

    private static void claimsGoStale() {
        due.sentence("is a RUN's last ROW as it was told: it is STALE if its RUN is");
        TrialBook x = new TrialBook();
        x.data(0, MOST);
        Books.steps(x, 0, 0x50);
        x.run(0, 0, 0, 1);
        x.claim(0);
        x.data(0, LEAST);
        x.run(0, 0, 0, 1);
        x.again(0);
        due.is("the row as it was", x.claimed(0, 1), MOST);
        due.is("stale by its word", x.claimed(0, 2), 1);
        x.data(0, MOST);
        due.is("changed back", x.claimed(0, 2), 0);
        Books.steps(x, 0, 0x51);
        due.is("stale by its code", x.claimed(0, 2), 1);
        due.is("a stale run can be claimed", x.claim(0), 1);
    }
}
