/**
 * A book of trials: runs of small programs, with notes of what each run read, so that it can be
 * told which are alike, saved, stale or loose, and which settings are surely better.
 */
public final class TrialBook {
    public static final int NONE = -1;

    private static final int CODES = 4;
    private static final int MOST_STEPS = 8;
    private static final int WORDS = 8;
    private static final int SETTINGS = 4;
    private static final int ALL_SETTINGS = 15;
    private static final int VALUES = 6;
    private static final int FIRST_BOUND = 2;
    private static final int SEEDS = 100;
    private static final int MOST_TICKS = 16;
    private static final int MOST_RUNS = 40;
    private static final int MOST_CLAIMS = 20;
    private static final int MOST_GRID_SEEDS = 8;
    private static final int ALL_GRID_SEEDS = 255;
    private static final int MOST_CELLS = 1296;
    private static final int MOST_SIGNS = 30;
    private static final int MOST_COMPARISONS = 1000;
    private static final int MOST_ODDS = 1000000;
    private static final int CLOCK_IS_LOOSE = 256;
    private static final int FIRST_ROW = 100;

    private static final int ADD = 0;
    private static final int MULTIPLY = 1;
    private static final int ADD_SETTING = 2;
    private static final int LEAVE_OUT = 3;
    private static final int MIX_SEED = 4;
    private static final int ADD_WORD = 5;
    private static final int ADD_CLOCK = 6;
    private static final int TURN = 7;
    private static final int REMAINDER = 8;
    private static final int BREAK = 9;

    private static final int ALL_PAIRS = 0;
    private static final int WON_PAIRS = 1;
    private static final int LOST_PAIRS = 2;

    private final Code[] codeRows = new Code[CODES];
    private final int[] bounds = new int[SETTINGS];
    private final World world = new World();
    private final Run[] runRows = new Run[MOST_RUNS];
    private int runCount;
    private final int[] claimRuns = new int[MOST_CLAIMS];
    private final int[] claimRows = new int[MOST_CLAIMS];
    private int claimCount;
    /** The runs that may fill holes, gathered anew by each call that asks for holes. */
    private final Run[] fillers = new Run[MOST_RUNS];
    private int fillerCount;

    public TrialBook() {
        for (int k = 0; k < codeRows.length; k++) {
            codeRows[k] = new Code(0, 0, 0);
        }
        for (int i = 0; i < bounds.length; i++) {
            bounds[i] = FIRST_BOUND;
        }
    }

    public boolean code(int k, int n, int a, int b) {
        if (k < 0 || k >= codeRows.length || n < 0 || n > MOST_STEPS) {
            return false;
        }
        codeRows[k] = new Code(n, a, b);
        return true;
    }

    public boolean data(int i, int v) {
        return world.setWord(i, v);
    }

    public boolean bound(int i, int v) {
        if (i < 0 || i >= bounds.length || v < 1 || v > VALUES) {
            return false;
        }
        bounds[i] = v;
        return true;
    }

    public int run(int k, int settings, int seed, int ticks) {
        Code code = codeAt(k);
        if (code == null || !areSettings(settings) || !isSeed(seed) || !areTicks(ticks)) {
            return NONE;
        }
        return enter(new Run(k, code, settings, seed, ticks));
    }

    public int fork(int r, int t, int settings, int seed) {
        Run source = runAt(r);
        if (source == null || source.broken || t < 0 || t > source.rowCount) {
            return NONE;
        }
        if (!areSettings(settings) || !isSeed(seed)) {
            return NONE;
        }
        Run made = new Run(source.codeNumber, source.code, settings, seed, source.ticks);
        made.comeOf(r, t);
        made.takeRows(source, t);
        made.read.addAll(source.read);
        return enter(made);
    }

    public int of(int r, int what) {
        Run run = runAt(r);
        if (run == null) {
            return NONE;
        }
        if (what >= FIRST_ROW) {
            return run.rowAt(what - FIRST_ROW);
        }
        switch (what) {
            case 0: return run.codeNumber;
            case 1: return run.settings;
            case 2: return run.seed;
            case 3: return run.ticks;
            case 4: return run.rowCount;
            case 5: return asNumber(run.broken);
            case 6: return run.origin;
            case 7: return run.originTick;
            case 8: return run.read.settings;
            case 9: return run.read.words;
            case 10: return asNumber(run.read.seed);
            case 11: return asNumber(run.read.clock);
            case 12: return asNumber(isStale(run));
            default: return NONE;
        }
    }

    public int clock() {
        return world.clock;
    }

    public int runs() {
        return runCount;
    }

    public int again(int r) {
        Run run = runAt(r);
        if (run == null) {
            return NONE;
        }
        Run repeat = new Run(run.codeNumber, run.code, run.settings, run.seed, run.ticks);
        if (run.isFork()) {
            repeat.takeRows(run, run.originTick);
        }
        world.clock++;
        repeat.doTicks(world);
        return run.firstOtherTick(repeat);
    }

    public int loose(int r) {
        Run run = runAt(r);
        if (run == null) {
            return NONE;
        }
        return run.read.changedWords(world) + (run.read.clock ? CLOCK_IS_LOOSE : 0);
    }

    public int saved(int k, int settings, int seed, int ticks) {
        Code code = codeAt(k);
        if (code == null || !areSettings(settings) || !isSeed(seed) || !areTicks(ticks)) {
            return NONE;
        }
        for (int r = 0; r < runCount; r++) {
            Run run = runAt(r);
            if (run != null && run.fitsSettings(settings) && run.fitsSeed(seed)
                    && run.isUsable(code, ticks, world)) {
                return r;
            }
        }
        return NONE;
    }

    public int pairs(int i, int u, int v, int ticks, int what) {
        if (!canCompare(i, u, v, ticks) || what < ALL_PAIRS || what > LOST_PAIRS) {
            return NONE;
        }
        return countPairs(i, u, v, ticks, what);
    }

    public int pair(int i, int u, int v, int ticks, int k, int what) {
        if (!canCompare(i, u, v, ticks) || k < 0 || what < 0 || what > 1) {
            return NONE;
        }
        int ahead = k;
        for (int p = 0; p < runCount; p++) {
            Run first = runAt(p);
            if (!standsFor(first, i, u, ticks)) {
                continue;
            }
            for (int q = 0; q < runCount; q++) {
                Run second = runAt(q);
                if (!standsFor(second, i, v, ticks) || !first.pairsWith(second, i)) {
                    continue;
                }
                if (ahead == 0) {
                    return what == 0 ? p : q;
                }
                ahead--;
            }
        }
        return NONE;
    }

    public int sure(int i, int u, int v, int ticks, int m, int r) {
        if (!canCompare(i, u, v, ticks) || m < 1 || m > MOST_COMPARISONS || !areOdds(r)) {
            return NONE;
        }
        return judge(i, u, v, ticks, (long) m * r);
    }

    public int best(int i, int ticks, int r) {
        if (!isSetting(i) || !areTicks(ticks) || !areOdds(r)) {
            return NONE;
        }
        int values = boundOf(i);
        if (values < 2) {
            return NONE;
        }
        long odds = (long) values * (values - 1) * r;
        for (int v = 0; v < values; v++) {
            if (beatsOthers(i, v, ticks, odds)) {
                return v;
            }
        }
        return NONE;
    }

    public int holes(int k, int ticks, int s) {
        Code code = codeAt(k);
        if (code == null || !areTicks(ticks) || !areGridSeeds(s)) {
            return NONE;
        }
        gatherFillers(code, ticks);
        int total = 0;
        int settings = 0;
        for (int cell = 0; cell < MOST_CELLS && settings != NONE; cell++) {
            total += Integer.bitCount(openSeeds(settings, s));
            settings = nextSettings(settings);
        }
        return total;
    }

    public int hole(int k, int ticks, int s, int j, int what) {
        Code code = codeAt(k);
        if (code == null || !areTicks(ticks) || !areGridSeeds(s) || j < 0 || what < 0 || what > 1) {
            return NONE;
        }
        gatherFillers(code, ticks);
        int ahead = j;
        int settings = 0;
        for (int cell = 0; cell < MOST_CELLS && settings != NONE; cell++) {
            int open = openSeeds(settings, s);
            int here = Integer.bitCount(open);
            if (ahead < here) {
                return what == 0 ? settings : memberAt(open, ahead);
            }
            ahead -= here;
            settings = nextSettings(settings);
        }
        return NONE;
    }

    public int idle() {
        int used = 0;
        for (int r = 0; r < runCount; r++) {
            Run run = runAt(r);
            if (run != null) {
                used |= run.read.settings;
            }
        }
        return ALL_SETTINGS & ~used;
    }

    public int claim(int r) {
        Run run = runAt(r);
        if (run == null || run.broken || claimCount < 0 || claimCount >= MOST_CLAIMS) {
            return NONE;
        }
        claimRuns[claimCount] = r;
        claimRows[claimCount] = run.lastRow();
        claimCount++;
        return claimCount - 1;
    }

    public int claimed(int i, int what) {
        if (i < 0 || i >= claimCount || i >= MOST_CLAIMS) {
            return NONE;
        }
        switch (what) {
            case 0: return claimRuns[i];
            case 1: return claimRows[i];
            case 2: return asNumber(isStale(runAt(claimRuns[i])));
            default: return NONE;
        }
    }

    private Code codeAt(int k) {
        return k >= 0 && k < codeRows.length ? codeRows[k] : null;
    }

    private Run runAt(int r) {
        return r >= 0 && r < runCount && r < runRows.length ? runRows[r] : null;
    }

    private int boundOf(int i) {
        return i >= 0 && i < bounds.length ? bounds[i] : 1;
    }

    /** Does the ticks of a run and gives it its number; in a full book neither is done. */
    private int enter(Run made) {
        if (runCount < 0 || runCount >= runRows.length) {
            return NONE;
        }
        world.clock++;
        made.doTicks(world);
        made.counts = made.isComparable() && !isCountedAlready(made);
        runRows[runCount] = made;
        runCount++;
        return runCount - 1;
    }

    /** Asked once, as a run is entered: what makes runs alike never changes behind that. */
    private boolean isCountedAlready(Run made) {
        for (int r = 0; r < runCount; r++) {
            Run lesser = runAt(r);
            if (lesser != null && lesser.counts && lesser.isLike(made)) {
                return true;
            }
        }
        return false;
    }

    private boolean isStale(Run run) {
        if (run == null) {
            return false;
        }
        return !run.code.isLike(codeAt(run.codeNumber)) || run.read.changedWords(world) != 0;
    }

    private static boolean canCompare(int i, int u, int v, int ticks) {
        return isSetting(i) && isValue(u) && isValue(v) && u != v && areTicks(ticks);
    }

    private static boolean standsFor(Run run, int i, int value, int ticks) {
        return run != null && run.counts && run.ticks == ticks && settingOf(run.settings, i) == value;
    }

    private int countPairs(int i, int u, int v, int ticks, int what) {
        int count = 0;
        for (int p = 0; p < runCount; p++) {
            Run first = runAt(p);
            if (!standsFor(first, i, u, ticks)) {
                continue;
            }
            for (int q = 0; q < runCount; q++) {
                Run second = runAt(q);
                if (standsFor(second, i, v, ticks) && first.pairsWith(second, i)
                        && endsAsAsked(first.lastRow(), second.lastRow(), what)) {
                    count++;
                }
            }
        }
        return count;
    }

    private static boolean endsAsAsked(int first, int second, int what) {
        if (what == WON_PAIRS) {
            return second > first;
        }
        if (what == LOST_PAIRS) {
            return second < first;
        }
        return true;
    }

    /** 1 if v is sure to be better than u, 0 if not, NONE if there are too many signs to tell. */
    private int judge(int i, int u, int v, int ticks, long odds) {
        int won = countPairs(i, u, v, ticks, WON_PAIRS);
        int signs = won + countPairs(i, u, v, ticks, LOST_PAIRS);
        if (signs > MOST_SIGNS) {
            return NONE;
        }
        // At most 10 to the 9th times 2 to the 30th, so a long holds the product.
        return asNumber(odds * waysToWin(signs, won) <= 1L << signs);
    }

    /** In how many of all rows of so many signs at least so many are won. */
    private static long waysToWin(int signs, int won) {
        long sum = 0;
        long ways = 1;
        for (int lost = 0; lost <= signs - won; lost++) {
            sum += ways;
            ways = ways * (signs - lost) / (lost + 1);
        }
        return sum;
    }

    private boolean beatsOthers(int i, int v, int ticks, long odds) {
        int values = boundOf(i);
        for (int u = 0; u < values; u++) {
            if (u != v && judge(i, u, v, ticks, odds) != 1) {
                return false;
            }
        }
        return true;
    }

    /** Whatever does not hang on settings and seed is looked at once, not for each cell. */
    private void gatherFillers(Code code, int ticks) {
        fillerCount = 0;
        for (int r = 0; r < runCount; r++) {
            Run run = runAt(r);
            if (run != null && run.isUsable(code, ticks, world) && fillerCount < fillers.length) {
                fillers[fillerCount] = run;
                fillerCount++;
            }
        }
    }

    /** The set of seeds below s for which no gathered run is saved with these settings. */
    private int openSeeds(int settings, int s) {
        int filled = 0;
        for (int f = 0; f < fillerCount && f < fillers.length; f++) {
            Run run = fillers[f];
            if (run != null && run.fitsSettings(settings)) {
                filled |= run.gridSeeds();
            }
        }
        return ~filled & ((1 << s) - 1);
    }

    /** The settings behind these in the grid, NONE behind the last; setting 3 turns fastest. */
    private int nextSettings(int settings) {
        int next = settings;
        for (int i = SETTINGS - 1; i >= 0; i--) {
            int value = settingOf(next, i);
            if (value + 1 < boundOf(i)) {
                return next + (1 << (4 * i));
            }
            next -= value << (4 * i);
        }
        return NONE;
    }

    private static int memberAt(int set, int place) {
        int ahead = place;
        for (int member = 0; member < MOST_GRID_SEEDS; member++) {
            if (!isIn(member, set)) {
                continue;
            }
            if (ahead == 0) {
                return member;
            }
            ahead--;
        }
        return NONE;
    }

    private static boolean isIn(int member, int set) {
        return (set >> member & 1) == 1;
    }

    private static int settingOf(int settings, int i) {
        return settings >> (4 * i) & 15;
    }

    private static boolean areSettings(int settings) {
        if (settings < 0 || settings >= 1 << (4 * SETTINGS)) {
            return false;
        }
        for (int i = 0; i < SETTINGS; i++) {
            if (!isValue(settingOf(settings, i))) {
                return false;
            }
        }
        return true;
    }

    private static boolean isSetting(int i) {
        return i >= 0 && i < SETTINGS;
    }

    private static boolean isValue(int v) {
        return v >= 0 && v < VALUES;
    }

    private static boolean isSeed(int seed) {
        return seed >= 0 && seed < SEEDS;
    }

    private static boolean areTicks(int ticks) {
        return ticks >= 1 && ticks <= MOST_TICKS;
    }

    private static boolean areGridSeeds(int s) {
        return s >= 1 && s <= MOST_GRID_SEEDS;
    }

    private static boolean areOdds(int r) {
        return r >= 1 && r <= MOST_ODDS;
    }

    private static int asNumber(boolean yes) {
        return yes ? 1 : 0;
    }

    private static int remainder(int x, int by) {
        return by == 0 ? 0 : x % by;
    }

    /** A row of steps; it never changes, so a run can keep the one that it was done by. */
    private static final class Code {
        final int count;
        private final long bytes;

        Code(int count, int a, int b) {
            long all = (long) a << 32 | b & 0xFFFFFFFFL;
            this.count = count;
            // Bytes behind the last step go: they must not tell apart codes that are alike.
            this.bytes = count <= 0 ? 0L : all >>> (8 * (MOST_STEPS - count));
        }

        int stepAt(int j) {
            return (int) (bytes >>> (8 * (count - 1 - j))) & 255;
        }

        boolean isLike(Code other) {
            return other != null && count == other.count && bytes == other.bytes;
        }
    }

    /** What a run finds outside of itself. */
    private static final class World {
        private final int[] words = new int[WORDS];
        int clock;

        boolean setWord(int i, int v) {
            if (i < 0 || i >= words.length) {
                return false;
            }
            words[i] = v;
            return true;
        }

        int wordAt(int i) {
            return i >= 0 && i < words.length ? words[i] : 0;
        }
    }

    /** What a run read, with the data words as they were then. */
    private static final class Notes {
        int settings;
        int words;
        boolean seed;
        boolean clock;
        private final int[] values = new int[WORDS];

        void addWord(int i, int v) {
            if (i >= 0 && i < values.length) {
                words |= 1 << i;
                values[i] = v;
            }
        }

        void addAll(Notes other) {
            settings |= other.settings;
            seed = seed || other.seed;
            clock = clock || other.clock;
            for (int i = 0; i < other.values.length; i++) {
                if (isIn(i, other.words)) {
                    addWord(i, other.values[i]);
                }
            }
        }

        int changedWords(World now) {
            int changed = 0;
            for (int i = 0; i < values.length; i++) {
                if (isIn(i, words) && values[i] != now.wordAt(i)) {
                    changed |= 1 << i;
                }
            }
            return changed;
        }

        boolean agreesOnSharedWords(Notes other) {
            int shared = words & other.words;
            for (int i = 0; i < values.length && i < other.values.length; i++) {
                if (isIn(i, shared) && values[i] != other.values[i]) {
                    return false;
                }
            }
            return true;
        }
    }

    /** One run or fork: what was asked, the rows that came of it, and what it read. */
    private static final class Run {
        final int codeNumber;
        final Code code;
        final int settings;
        final int seed;
        final int ticks;
        final Notes read = new Notes();
        private final int[] rows = new int[MOST_TICKS];
        int rowCount;
        boolean broken;
        boolean counts;
        int origin = NONE;
        int originTick = NONE;

        Run(int codeNumber, Code code, int settings, int seed, int ticks) {
            this.codeNumber = codeNumber;
            this.code = code;
            this.settings = settings;
            this.seed = seed;
            this.ticks = ticks;
        }

        void comeOf(int r, int t) {
            origin = r;
            originTick = t;
        }

        void takeRows(Run source, int t) {
            for (int i = 0; i < t && i < rows.length; i++) {
                rows[i] = source.rowAt(i);
                rowCount = i + 1;
            }
        }

        boolean isFork() {
            return origin != NONE;
        }

        int rowAt(int t) {
            return t >= 0 && t < rowCount && t < rows.length ? rows[t] : NONE;
        }

        /** Without rows, the x that a run begins with. */
        int lastRow() {
            return rowCount == 0 ? 0 : rowAt(rowCount - 1);
        }

        /** Goes on behind the rows that are there already. */
        void doTicks(World now) {
            int x = lastRow();
            for (int t = rowCount; t < ticks && t < rows.length; t++) {
                x = afterTick(x, t, now);
                if (broken) {
                    return;
                }
                rows[t] = x;
                rowCount = t + 1;
            }
        }

        private int afterTick(int before, int t, World now) {
            int x = before;
            for (int j = 0; j < code.count && !broken; j++) {
                int step = code.stepAt(j);
                int kind = step >> 4;
                int o = step & 15;
                if (kind == LEAVE_OUT) {
                    if (readSetting(o) > o / 4) {
                        j++;
                    }
                } else if (kind == BREAK) {
                    broken = remainder(x, o + 1) == 0;
                } else {
                    x = afterStep(x, kind, o, t, now);
                }
            }
            return x;
        }

        private int afterStep(int x, int kind, int o, int t, World now) {
            switch (kind) {
                case ADD: return x + o;
                case MULTIPLY: return x * o;
                case ADD_SETTING: return x + readSetting(o);
                case MIX_SEED: return x ^ readSeed() * (o + 1);
                case ADD_WORD: return x + readWord((t + o) % WORDS, now);
                case ADD_CLOCK: return x + readClock(now);
                // With o 0 both shifts are by 0, as Java takes 32 for 0.
                case TURN: return x << o | x >>> (32 - o);
                case REMAINDER: return remainder(x, o + 2);
                default: return x;
            }
        }

        private int readSetting(int o) {
            int i = o % SETTINGS;
            read.settings |= 1 << i;
            return settingOf(settings, i);
        }

        private int readSeed() {
            read.seed = true;
            return seed;
        }

        private int readWord(int i, World now) {
            int word = now.wordAt(i);
            read.addWord(i, word);
            return word;
        }

        private int readClock(World now) {
            read.clock = true;
            return now.clock;
        }

        /** Where a repeat goes another way; how many ticks there are, if nowhere. */
        int firstOtherTick(Run repeat) {
            int shared = Math.min(rowCount, repeat.rowCount);
            for (int t = 0; t < shared; t++) {
                if (rowAt(t) != repeat.rowAt(t)) {
                    return t;
                }
            }
            return rowCount == repeat.rowCount ? ticks : shared;
        }

        boolean isComparable() {
            return !isFork() && !broken && !read.clock;
        }

        boolean isLike(Run other) {
            return code.isLike(other.code) && settings == other.settings && seed == other.seed
                    && ticks == other.ticks && read.words == other.read.words
                    && read.agreesOnSharedWords(other.read);
        }

        /** Whether the two differ in setting i alone, as far as they can be told apart. */
        boolean pairsWith(Run other, int i) {
            int others = ~(15 << (4 * i));
            return code.isLike(other.code) && seed == other.seed
                    && (settings & others) == (other.settings & others)
                    && read.agreesOnSharedWords(other.read);
        }

        /** Whether it may be saved for such a run, with the right settings and seed. */
        boolean isUsable(Code wanted, int wantedTicks, World now) {
            return isComparable() && ticks >= wantedTicks && code.isLike(wanted)
                    && read.changedWords(now) == 0;
        }

        boolean fitsSettings(int wanted) {
            for (int i = 0; i < SETTINGS; i++) {
                if (isIn(i, read.settings) && settingOf(settings, i) != settingOf(wanted, i)) {
                    return false;
                }
            }
            return true;
        }

        boolean fitsSeed(int wanted) {
            return !read.seed || seed == wanted;
        }

        /** The seeds of the grid that it fits, as a set. */
        int gridSeeds() {
            if (!read.seed) {
                return ALL_GRID_SEEDS;
            }
            return seed < MOST_GRID_SEEDS ? 1 << seed : 0;
        }
    }
}
