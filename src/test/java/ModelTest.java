import java.math.BigInteger;
import java.util.ArrayList;
import java.util.Arrays;
import java.util.List;
import java.util.Map;
import java.util.Random;
import java.util.TreeMap;

/** Drawn runs of calls, each answer held against a slow model that is written another way. */
public final class ModelTest {
    private static final int BOOKS = 1500;
    private static final int CALLS = 512;

    /** One run as the model holds it: what it read is a map from a name to the value met. */
    static final class Trial {
        int k;
        List<Integer> steps;
        int[] set;
        int seed;
        int ticks;
        int parent = -1;
        int at = -1;
        boolean broken;
        List<Integer> rows = new ArrayList<>();
        Map<String, Integer> read = new TreeMap<>();

        void go(int[] data, int clock) {
            Map<String, Integer> own = new TreeMap<>();
            int x = rows.isEmpty() ? 0 : rows.get(rows.size() - 1);
            for (int t = rows.size(); t < ticks; t++) {
                boolean skip = false;
                for (int step : steps) {
                    if (skip) {
                        skip = false;
                        continue;
                    }
                    int o = step % 16;
                    int i = o % 4;
                    switch (step / 16) {
                        case 0 -> x += o;
                        case 1 -> x *= o;
                        case 2 -> { own.put("s" + i, set[i]); x += set[i]; }
                        case 3 -> { own.put("s" + i, set[i]); skip = set[i] > Math.floorDiv(o, 4); }
                        case 4 -> { own.put("seed", seed); x ^= seed * (o + 1); }
                        case 5 -> { int w = (t + o) % 8; own.put("d" + w, data[w]); x += data[w]; }
                        case 6 -> { own.put("clock", clock); x += clock; }
                        case 7 -> x = Integer.rotateLeft(x, o);
                        case 8 -> x = new BigInteger("" + x).remainder(new BigInteger("" + (o + 2))).intValue();
                        case 9 -> broken = Math.floorMod(x, o + 1) == 0;
                        default -> { }
                    }
                    if (broken) {
                        read.putAll(own);
                        return;
                    }
                }
                rows.add(x);
            }
            read.putAll(own);
        }

        Trial repeat(int[] data, int clock) {
            Trial other = new Trial();
            other.steps = steps;
            other.set = set;
            other.seed = seed;
            other.ticks = ticks;
            if (at >= 0) {
                other.rows.addAll(rows.subList(0, at));
            }
            other.go(data, clock);
            return other;
        }

        Map<String, Integer> words() {
            Map<String, Integer> words = new TreeMap<>(read);
            words.keySet().removeIf(name -> !name.startsWith("d"));
            return words;
        }

        int setOf(String letter, int size) {
            int set = 0;
            for (int i = 0; i < size; i++) {
                set += read.containsKey(letter + i) ? 1 << i : 0;
            }
            return set;
        }

        int last() {
            return rows.get(rows.size() - 1);
        }
    }

    static final class Model {
        final List<List<Integer>> codes = new ArrayList<>(List.of(List.of(), List.of(), List.of(), List.of()));
        final int[] data = new int[8];
        final int[] bounds = {2, 2, 2, 2};
        final List<Trial> trials = new ArrayList<>();
        final List<int[]> claims = new ArrayList<>();
        int clock;

        static boolean in(int v, int low, int high) {
            return v >= low && v <= high;
        }

        /** The four settings, or null if they can't be. */
        static int[] unpack(int settings) {
            if (!in(settings, 0, 65535)) {
                return null;
            }
            int[] set = {settings % 16, settings / 16 % 16, settings / 256 % 16, settings / 4096};
            return Arrays.stream(set).allMatch(v -> v <= 5) ? set : null;
        }

        static int pack(int[] set) {
            return set[0] + 16 * set[1] + 256 * set[2] + 4096 * set[3];
        }

        int code(int k, int n, int a, int b) {
            if (!in(k, 0, 3) || !in(n, 0, 8)) {
                return 0;
            }
            String hex = String.format("%08x%08x", a, b);
            List<Integer> steps = new ArrayList<>();
            for (int j = 0; j < n; j++) {
                steps.add(Integer.parseInt(hex.substring(2 * j, 2 * j + 2), 16));
            }
            codes.set(k, steps);
            return 1;
        }

        int data(int i, int v) {
            if (!in(i, 0, 7)) {
                return 0;
            }
            data[i] = v;
            return 1;
        }

        int bound(int i, int v) {
            if (!in(i, 0, 3) || !in(v, 1, 6)) {
                return 0;
            }
            bounds[i] = v;
            return 1;
        }

        int run(int k, int settings, int seed, int ticks) {
            if (!in(k, 0, 3) || unpack(settings) == null || !in(seed, 0, 99) || !in(ticks, 1, 16) || trials.size() == 40) {
                return -1;
            }
            Trial made = new Trial();
            made.k = k;
            made.steps = codes.get(k);
            made.set = unpack(settings);
            made.seed = seed;
            made.ticks = ticks;
            made.go(data, ++clock);
            trials.add(made);
            return trials.size() - 1;
        }

        int fork(int r, int t, int settings, int seed) {
            if (!in(r, 0, trials.size() - 1) || unpack(settings) == null || !in(seed, 0, 99) || trials.size() == 40) {
                return -1;
            }
            Trial source = trials.get(r);
            if (source.broken || !in(t, 0, source.rows.size())) {
                return -1;
            }
            Trial made = new Trial();
            made.k = source.k;
            made.steps = source.steps;
            made.set = unpack(settings);
            made.seed = seed;
            made.ticks = source.ticks;
            made.parent = r;
            made.at = t;
            made.rows.addAll(source.rows.subList(0, t));
            made.read.putAll(source.read);
            made.go(data, ++clock);
            trials.add(made);
            return trials.size() - 1;
        }

        boolean stale(Trial t) {
            return !codes.get(t.k).equals(t.steps) || looseWords(t) != 0;
        }

        int looseWords(Trial t) {
            int loose = 0;
            for (int i = 0; i < 8; i++) {
                Integer was = t.read.get("d" + i);
                loose += was != null && was != data[i] ? 1 << i : 0;
            }
            return loose;
        }

        int of(int r, int what) {
            if (!in(r, 0, trials.size() - 1)) {
                return -1;
            }
            Trial t = trials.get(r);
            if (what >= 100) {
                return what - 100 < t.rows.size() ? t.rows.get(what - 100) : -1;
            }
            int[] told = {t.k, pack(t.set), t.seed, t.ticks, t.rows.size(), t.broken ? 1 : 0, t.parent, t.at,
                t.setOf("s", 4), t.setOf("d", 8), t.read.containsKey("seed") ? 1 : 0,
                t.read.containsKey("clock") ? 1 : 0, stale(t) ? 1 : 0};
            return in(what, 0, 12) ? told[what] : -1;
        }

        int again(int r) {
            if (!in(r, 0, trials.size() - 1)) {
                return -1;
            }
            Trial t = trials.get(r);
            Trial repeat = t.repeat(data, ++clock);
            for (int i = 0; i < t.ticks; i++) {
                boolean here = i < t.rows.size();
                boolean there = i < repeat.rows.size();
                if (here != there || here && !t.rows.get(i).equals(repeat.rows.get(i))) {
                    return i;
                }
            }
            return t.ticks;
        }

        int loose(int r) {
            if (!in(r, 0, trials.size() - 1)) {
                return -1;
            }
            Trial t = trials.get(r);
            return looseWords(t) + (t.read.containsKey("clock") ? 256 : 0);
        }

        int saved(int k, int settings, int seed, int ticks) {
            if (!in(k, 0, 3) || unpack(settings) == null || !in(seed, 0, 99) || !in(ticks, 1, 16)) {
                return -1;
            }
            Map<String, Integer> now = new TreeMap<>();
            for (int i = 0; i < 4; i++) {
                now.put("s" + i, unpack(settings)[i]);
            }
            for (int i = 0; i < 8; i++) {
                now.put("d" + i, data[i]);
            }
            now.put("seed", seed);
            for (int r = 0; r < trials.size(); r++) {
                Trial t = trials.get(r);
                if (t.parent < 0 && !t.broken && t.steps.equals(codes.get(k)) && t.ticks >= ticks
                        && now.entrySet().containsAll(t.read.entrySet())) {
                    return r;
                }
            }
            return -1;
        }

        List<Integer> counting() {
            List<Integer> counting = new ArrayList<>();
            List<List<Object>> met = new ArrayList<>();
            for (int r = 0; r < trials.size(); r++) {
                Trial t = trials.get(r);
                if (t.parent >= 0 || t.broken || t.read.containsKey("clock")) {
                    continue;
                }
                List<Object> like = List.of(t.steps, pack(t.set), t.seed, t.ticks, t.words());
                if (!met.contains(like)) {
                    met.add(like);
                    counting.add(r);
                }
            }
            return counting;
        }

        /** The pairs, or null if one can't be. */
        List<int[]> allPairs(int i, int u, int v, int ticks) {
            if (!in(i, 0, 3) || !in(u, 0, 5) || !in(v, 0, 5) || u == v || !in(ticks, 1, 16)) {
                return null;
            }
            List<int[]> found = new ArrayList<>();
            List<Integer> counting = counting();
            for (int p : counting) {
                for (int q : counting) {
                    Trial a = trials.get(p);
                    Trial b = trials.get(q);
                    int[] moved = a.set.clone();
                    moved[i] = v;
                    if (a.ticks != ticks || b.ticks != ticks || a.set[i] != u || !Arrays.equals(moved, b.set)
                            || a.seed != b.seed || !a.steps.equals(b.steps)) {
                        continue;
                    }
                    Map<String, Integer> both = new TreeMap<>(a.words());
                    both.keySet().retainAll(b.words().keySet());
                    if (b.words().entrySet().containsAll(both.entrySet())) {
                        found.add(new int[] {p, q});
                    }
                }
            }
            return found;
        }

        int signs(List<int[]> found, int sign) {
            int count = 0;
            for (int[] pair : found) {
                count += Integer.compare(trials.get(pair[1]).last(), trials.get(pair[0]).last()) == sign ? 1 : 0;
            }
            return count;
        }

        int pairs(int i, int u, int v, int ticks, int what) {
            List<int[]> found = allPairs(i, u, v, ticks);
            if (found == null || !in(what, 0, 2)) {
                return -1;
            }
            return what == 0 ? found.size() : signs(found, what == 1 ? 1 : -1);
        }

        int pair(int i, int u, int v, int ticks, int k, int what) {
            List<int[]> found = allPairs(i, u, v, ticks);
            return found == null || !in(k, 0, found.size() - 1) || !in(what, 0, 1) ? -1 : found.get(k)[what];
        }

        static BigInteger over(int n, int k) {
            BigInteger product = BigInteger.ONE;
            for (int i = 1; i <= k; i++) {
                product = product.multiply(BigInteger.valueOf(n - k + i)).divide(BigInteger.valueOf(i));
            }
            return product;
        }

        int sure(int i, int u, int v, int ticks, int m, int r) {
            List<int[]> found = allPairs(i, u, v, ticks);
            if (found == null || !in(m, 1, 1000) || !in(r, 1, 1000000)) {
                return -1;
            }
            int won = signs(found, 1);
            int n = won + signs(found, -1);
            if (n > 30) {
                return -1;
            }
            BigInteger sum = BigInteger.ZERO;
            for (int k = won; k <= n; k++) {
                sum = sum.add(over(n, k));
            }
            BigInteger all = sum.multiply(BigInteger.valueOf(m)).multiply(BigInteger.valueOf(r));
            return all.compareTo(BigInteger.TWO.pow(n)) <= 0 ? 1 : 0;
        }

        int best(int i, int ticks, int r) {
            if (!in(i, 0, 3) || !in(ticks, 1, 16) || !in(r, 1, 1000000) || bounds[i] == 1) {
                return -1;
            }
            for (int v = 0; v < bounds[i]; v++) {
                int beaten = 0;
                for (int u = 0; u < bounds[i]; u++) {
                    beaten += u != v && sure(i, u, v, ticks, bounds[i] * (bounds[i] - 1), r) == 1 ? 1 : 0;
                }
                if (beaten == bounds[i] - 1) {
                    return v;
                }
            }
            return -1;
        }

        /** The holes, or null if one can't be. */
        List<int[]> allHoles(int k, int ticks, int s) {
            if (!in(k, 0, 3) || !in(ticks, 1, 16) || !in(s, 1, 8)) {
                return null;
            }
            List<int[]> found = new ArrayList<>();
            for (int a = 0; a < bounds[0]; a++) {
                for (int b = 0; b < bounds[1]; b++) {
                    for (int c = 0; c < bounds[2]; c++) {
                        for (int d = 0; d < bounds[3]; d++) {
                            for (int seed = 0; seed < s; seed++) {
                                int settings = pack(new int[] {a, b, c, d});
                                if (saved(k, settings, seed, ticks) < 0) {
                                    found.add(new int[] {settings, seed});
                                }
                            }
                        }
                    }
                }
            }
            return found;
        }

        int holes(int k, int ticks, int s) {
            List<int[]> found = allHoles(k, ticks, s);
            return found == null ? -1 : found.size();
        }

        int hole(int k, int ticks, int s, int j, int what) {
            List<int[]> found = allHoles(k, ticks, s);
            return found == null || !in(j, 0, found.size() - 1) || !in(what, 0, 1) ? -1 : found.get(j)[what];
        }

        int idle() {
            int idle = 0;
            for (int i = 0; i < 4; i++) {
                String name = "s" + i;
                idle += trials.stream().anyMatch(t -> t.read.containsKey(name)) ? 0 : 1 << i;
            }
            return idle;
        }

        int claim(int r) {
            if (!in(r, 0, trials.size() - 1) || trials.get(r).broken || claims.size() == 20) {
                return -1;
            }
            claims.add(new int[] {r, trials.get(r).last()});
            return claims.size() - 1;
        }

        int claimed(int i, int what) {
            if (!in(i, 0, claims.size() - 1) || !in(what, 0, 2)) {
                return -1;
            }
            return what < 2 ? claims.get(i)[what] : stale(trials.get(claims.get(i)[0])) ? 1 : 0;
        }
    }

    private static final int[] KINDS = {0, 1, 2, 2, 2, 3, 3, 3, 4, 5, 5, 5, 6, 7, 8, 9, 12};
    private static final int[] ODD = {-1, Integer.MIN_VALUE, Integer.MAX_VALUE, 6, 8, 16, 17, 40, 100, 65536, 1 << 20};

    private final Random random;
    private final Model model = new Model();
    private final TrialBook book = new TrialBook();
    private final List<Integer> palette = new ArrayList<>();
    private int wrong;

    private ModelTest(long seed) {
        random = new Random(seed);
        for (int i = 0; i < 3; i++) {
            palette.add(drawSteps());
        }
    }

    /** Now and then a number that can't be. */
    private int draw(int below) {
        return random.nextInt(60) == 0 ? ODD[random.nextInt(ODD.length)] : random.nextInt(below);
    }

    private int drawSteps() {
        int steps = 0;
        for (int j = 0; j < 4; j++) {
            steps = steps << 8 | KINDS[random.nextInt(KINDS.length)] << 4 | random.nextInt(random.nextBoolean() ? 4 : 16);
        }
        return steps;
    }

    private int drawSettings() {
        if (random.nextInt(40) == 0) {
            return random.nextInt();
        }
        int high = random.nextInt(4) == 0 ? 6 : 2;
        int settings = random.nextInt(high) | random.nextInt(high) << 4;
        return random.nextInt(3) == 0 ? settings | random.nextInt(high) << 8 | random.nextInt(high) << 12 : settings;
    }

    private int drawTicks() {
        return random.nextInt(4) == 0 ? draw(18) : 1 + random.nextInt(3);
    }

    private int drawRun() {
        return draw(model.trials.size() + 1);
    }

    private int drawOdds() {
        return random.nextInt(8) == 0 ? draw(1000002) : 1 + draw(12);
    }

    private void check(String name, int got, int want, int... args) {
        if (got != want) {
            wrong++;
            System.out.println(name + Arrays.toString(args) + " answered " + got + ", due is " + want);
        }
    }

    private static int number(boolean b) {
        return b ? 1 : 0;
    }

    private void change() {
        int a = random.nextInt(8) == 0 ? drawSteps() : palette.get(random.nextInt(palette.size()));
        int b = random.nextInt(4) == 0 ? drawSteps() : 0;
        int k = draw(4);
        switch (random.nextInt(12)) {
            case 0 -> {
                int n = random.nextInt(3) == 0 ? draw(9) : 3;
                check("code", number(book.code(k, n, a, b)), model.code(k, n, a, b), k, n, a, b);
            }
            case 1 -> {
                int i = draw(8);
                int v = random.nextInt(20) == 0 ? random.nextInt() : random.nextInt(3) - 1;
                check("data", number(book.data(i, v)), model.data(i, v), i, v);
            }
            case 2 -> {
                int i = draw(4);
                int v = random.nextInt(3) == 0 ? draw(8) : 2;
                check("bound", number(book.bound(i, v)), model.bound(i, v), i, v);
            }
            case 3 -> {
                int r = drawRun();
                int t = draw(4);
                int settings = drawSettings();
                int seed = draw(3);
                check("fork", book.fork(r, t, settings, seed), model.fork(r, t, settings, seed), r, t, settings, seed);
            }
            case 4 -> {
                int r = drawRun();
                check("again", book.again(r), model.again(r), r);
            }
            case 5 -> {
                int r = drawRun();
                check("claim", book.claim(r), model.claim(r), r);
            }
            default -> {
                int settings = drawSettings();
                int seed = draw(3);
                int ticks = drawTicks();
                check("run", book.run(k, settings, seed, ticks), model.run(k, settings, seed, ticks), k, settings, seed, ticks);
            }
        }
    }

    private void ask() {
        int k = draw(4);
        int ticks = drawTicks();
        int settings = drawSettings();
        int seed = draw(3);
        int i = random.nextInt(3) == 0 ? draw(4) : 0;
        int u = random.nextInt(4) == 0 ? draw(6) : 0;
        int v = random.nextInt(4) == 0 ? draw(6) : 1;
        int r = drawRun();
        int what = draw(3);
        int m = random.nextInt(4) == 0 ? draw(1002) : 1;
        int odds = drawOdds();
        switch (random.nextInt(13)) {
            case 0, 1 -> {
                int w = random.nextBoolean() ? random.nextInt(13) : draw(120);
                check("of", book.of(r, w), model.of(r, w), r, w);
            }
            case 2 -> check("clock", book.clock(), model.clock);
            case 3 -> check("runs", book.runs(), model.trials.size());
            case 4 -> check("loose", book.loose(r), model.loose(r), r);
            case 5 -> check("saved", book.saved(k, settings, seed, ticks), model.saved(k, settings, seed, ticks), k, settings, seed, ticks);
            case 6 -> check("pairs", book.pairs(i, u, v, ticks, what), model.pairs(i, u, v, ticks, what), i, u, v, ticks, what);
            case 7 -> {
                int n = draw(4);
                check("pair", book.pair(i, u, v, ticks, n, what), model.pair(i, u, v, ticks, n, what), i, u, v, ticks, n, what);
            }
            case 8 -> check("sure", book.sure(i, u, v, ticks, m, odds), model.sure(i, u, v, ticks, m, odds), i, u, v, ticks, m, odds);
            case 9 -> check("best", book.best(i, ticks, odds), model.best(i, ticks, odds), i, ticks, odds);
            case 10 -> {
                int s = 1 + draw(3);
                check("holes", book.holes(k, ticks, s), model.holes(k, ticks, s), k, ticks, s);
                int j = draw(40);
                check("hole", book.hole(k, ticks, s, j, what), model.hole(k, ticks, s, j, what), k, ticks, s, j, what);
            }
            case 11 -> check("idle", book.idle(), model.idle());
            default -> {
                int c = draw(model.claims.size() + 1);
                check("claimed", book.claimed(c, what), model.claimed(c, what), c, what);
            }
        }
    }

    /** At the end each run is told whole. */
    private void tellAll() {
        for (int r = 0; r < model.trials.size(); r++) {
            for (int what = 0; what < 13; what++) {
                check("of", book.of(r, what), model.of(r, what), r, what);
            }
            for (int t = 0; t < 16; t++) {
                check("of", book.of(r, 100 + t), model.of(r, 100 + t), r, 100 + t);
            }
            check("loose", book.loose(r), model.loose(r), r);
        }
        for (int c = 0; c < model.claims.size(); c++) {
            for (int what = 0; what < 3; what++) {
                check("claimed", book.claimed(c, what), model.claimed(c, what), c, what);
            }
        }
    }

    public static void main(String[] args) {
        for (int seed = 0; seed < BOOKS; seed++) {
            ModelTest test = new ModelTest(seed);
            // Few changes at the end, so that many questions meet a full book.
            for (int call = 0; call < CALLS / 2; call++) {
                if (test.random.nextInt(call < 150 ? 2 : 6) == 0) {
                    test.change();
                } else {
                    test.ask();
                }
            }
            test.tellAll();
            if (test.wrong != 0) {
                System.out.println("book " + seed + ": " + test.wrong + " answers are not as due");
                System.exit(1);
            }
        }
        System.out.println("all answers are as due");
    }
}
