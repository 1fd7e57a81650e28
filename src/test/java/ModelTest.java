import java.util.Arrays;
import java.util.Map;
import java.util.Random;
import java.util.TreeMap;

/** All promises: runs of 512 mixed calls, each answer beside that of the Model. */
public final class ModelTest {
    private static final String[] CALLS = {"write", "remove", "drop", "conflict", "refresh", "commit",
        "sync", "crash", "open", "close", "get", "number", "at", "find", "match", "segments",
        "segment", "told"};
    /** How often each of CALLS comes; a run that comes to 600 changes or 150 views needs many. */
    private static final int[][] MIXES = {
        {20, 5, 3, 2, 8, 3, 3, 2, 6, 5, 3, 3, 6, 6, 10, 4, 12, 8},
        {40, 4, 2, 1, 40, 1, 2, 1, 3, 3, 1, 1, 2, 2, 2, 1, 3, 3},
        {60, 2, 12, 3, 10, 0, 1, 0, 2, 1, 1, 1, 1, 1, 1, 1, 1, 1},
        {30, 8, 2, 1, 8, 6, 6, 8, 6, 4, 2, 2, 3, 3, 3, 2, 5, 6},
        {45, 2, 0, 1, 30, 12, 4, 6, 2, 1, 1, 1, 1, 1, 1, 1, 2, 2},
        {25, 1, 0, 0, 20, 1, 0, 0, 8, 7, 0, 0, 2, 2, 4, 4, 20, 10},
        {70, 2, 2, 1, 60, 0, 6, 1, 2, 1, 0, 1, 1, 1, 1, 1, 3, 3},
    };
    /** How many calls lead a run to a bound, before the mixed ones; by kind of lead. */
    private static final int[] LEADS = {0, 290, 400, 0, 0};
    private static final int RUNS = 2800;

    private static final Due DUE = new Due("ModelTest");
    private static final Map<String, Integer> SEEN = new TreeMap<>();

    public static void main(String[] args) {
        for (int run = 0; run < RUNS; run++) {
            run(run);
        }
        everyRefusalWasSeen();
        DUE.end();
    }

    private static void run(int seed) {
        Random random = new Random(seed);
        int[] mix = MIXES[seed % MIXES.length];
        boolean mostlyRight = seed % 3 != 0;
        LiveViews x = new LiveViews();
        Model y = new Model();
        int lead = LEADS[seed % LEADS.length];
        for (int n = 0; n < 512; n++) {
            String call = n < lead ? leading(random, n, seed) : pick(random, mix);
            int[] a = n < lead && !call.equals("write") ? new int[] {y.told(0), 0}
                : arguments(random, call, y, n < lead || mostlyRight || random.nextInt(3) != 0);
            int got = answer(x, call, a);
            int want = answer(y, call, a);
            SEEN.merge(call + " " + Math.min(want, 0), 1, Integer::sum);
            DUE.is("run " + seed + ", call " + n + ": " + call + Arrays.toString(a), got, want);
            if (got != want) {
                return;
            }
        }
    }

    /** Many views (a refresh behind each write), or many changes (a drop of all, now and then). */
    private static String leading(Random random, int n, int seed) {
        if (random.nextInt(90) == 0) {
            return random.nextBoolean() ? "sync" : "commit";
        }
        if (seed % LEADS.length == 1) {
            return n % 2 == 0 ? "write" : "refresh";
        }
        return n % 18 == 16 ? "refresh" : n % 18 == 17 ? "drop" : "write";
    }

    private static String pick(Random random, int[] mix) {
        int sum = 0;
        for (int weight : mix) {
            sum += weight;
        }
        int at = random.nextInt(sum);
        int i = 0;
        while (at >= mix[i]) {
            at -= mix[i];
            i++;
        }
        return CALLS[i];
    }

    private static int[] arguments(Random random, String call, Model y, boolean right) {
        int key = right ? random.nextInt(16) : wild(random, 16);
        int view = view(random, y, right);
        int query = right ? random.nextInt(4) == 0 ? 0 : 1 << random.nextInt(8) : wild(random, 256);
        switch (call) {
            case "write": return new int[] {key,
                right ? 1 + random.nextInt(255) : wild(random, 256), expected(random, y, key, right)};
            case "remove": return new int[] {key, expected(random, y, key, right)};
            case "drop": return new int[] {view, right && random.nextBoolean() ? 0 : query};
            case "conflict": return new int[] {right ? random.nextInt(3) : wild(random, 3)};
            case "open": case "close": case "segments": return new int[] {view};
            case "get": case "number": return new int[] {key};
            case "at": return new int[] {view, key};
            case "find": return new int[] {view, query};
            case "match": return new int[] {view, query, right ? random.nextInt(256) : wild(random, 256),
                right ? random.nextInt(6) : wild(random, 16)};
            case "segment": return new int[] {view, right ? random.nextInt(3) : wild(random, 3),
                right ? random.nextInt(3) : random.nextBoolean() ? 10 + random.nextInt(10) : wild(random, 12)};
            case "told": return new int[] {right ? random.nextInt(8) : wild(random, 8)};
            default: return new int[0];
        }
    }

    private static int wild(Random random, int bound) {
        switch (random.nextInt(8)) {
            case 0: return -1;
            case 1: return bound;
            case 2: return Integer.MIN_VALUE;
            case 3: return Integer.MAX_VALUE;
            case 4: return -2;
            default: return random.nextInt(bound);
        }
    }

    private static int view(Random random, Model y, boolean right) {
        int latest = y.told(0);
        switch (random.nextInt(right ? 6 : 8)) {
            case 0: return y.told(1);
            case 1: case 2: case 3: return latest;
            case 4: return Math.max(0, latest - random.nextInt(4));
            case 5: return random.nextInt(latest + 2);
            default: return wild(random, 150);
        }
    }

    private static int expected(Random random, Model y, int key, boolean right) {
        int kind = random.nextInt(right ? 10 : 14);
        if (kind < 6) {
            return -1;
        }
        if (kind < 9) {
            return y.get(key) == 0 ? 0 : y.number(key);
        }
        return kind == 9 ? y.number(key) : wild(random, 20);
    }

    private static int answer(LiveViews x, String call, int[] a) {
        switch (call) {
            case "write": return x.write(a[0], a[1], a[2]);
            case "remove": return x.remove(a[0], a[1]);
            case "drop": return x.drop(a[0], a[1]);
            case "conflict": return x.conflict(a[0]);
            case "refresh": return x.refresh();
            case "commit": return x.commit();
            case "sync": return x.sync();
            case "crash": return x.crash();
            case "open": return x.open(a[0]);
            case "close": return x.close(a[0]);
            case "get": return x.get(a[0]);
            case "number": return x.number(a[0]);
            case "at": return x.at(a[0], a[1]);
            case "find": return x.find(a[0], a[1]);
            case "match": return x.match(a[0], a[1], a[2], a[3]);
            case "segments": return x.segments(a[0]);
            case "segment": return x.segment(a[0], a[1], a[2]);
            default: return x.told(a[0]);
        }
    }

    private static int answer(Model y, String call, int[] a) {
        switch (call) {
            case "write": return y.write(a[0], a[1], a[2]);
            case "remove": return y.remove(a[0], a[1]);
            case "drop": return y.drop(a[0], a[1]);
            case "conflict": return y.conflict(a[0]);
            case "refresh": return y.refresh();
            case "commit": return y.commit();
            case "sync": return y.sync();
            case "crash": return y.crash();
            case "open": return y.open(a[0]);
            case "close": return y.close(a[0]);
            case "get": return y.get(a[0]);
            case "number": return y.number(a[0]);
            case "at": return y.at(a[0], a[1]);
            case "find": return y.find(a[0], a[1]);
            case "match": return y.match(a[0], a[1], a[2], a[3]);
            case "segments": return y.segments(a[0]);
            case "segment": return y.segment(a[0], a[1], a[2]);
            default: return y.told(a[0]);
        }
    }

    /** Runs that never come to a bound would prove nothing of it. */
    private static void everyRefusalWasSeen() {
        String[] due = {"write -3", "write -4", "write -5", "remove -3", "remove -4", "remove -5",
            "drop -2", "drop -3", "drop -5", "conflict -1", "conflict -3", "refresh -5", "commit -5",
            "crash -5", "open -2", "close -2", "close -3", "get -3", "number -3", "at -2", "at -3",
            "find -2", "find -3", "match -1", "match -2", "match -3", "segments -2", "segment -2",
            "segment -3", "told -3"};
        for (String one : due) {
            DUE.holds(one + " was seen", SEEN.containsKey(one));
        }
        System.out.println("ModelTest: answers below 0 and not: " + SEEN);
    }
}
