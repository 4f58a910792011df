import java.lang.reflect.InvocationTargetException;
import java.util.Arrays;
import java.util.Random;

/** All promises at once: long runs of chosen calls, each answer against that of the plain model. */
public final class ModelTest {
    private static final int CALLS = 512;
    private static final int RUNS = 1500;
    private static final long ARGUMENT = Long.MAX_VALUE;
    private static final long STATE = Long.MAX_VALUE - 1;
    private static final long OTHER = Long.MAX_VALUE - 2;

    private static final String[] CALLED = {
        "open", "begin", "read", "write", "change", "count", "commit", "abort", "again", "deliver", "drop",
        "copy", "byteOf", "crash", "restart", "about", "vector", "value", "locked", "total",
    };

    /** How often each call comes, in the order of CALLED; a run keeps to one of these. */
    private static final int[][] MOODS = {
        {0, 40, 20, 90, 20, 10, 45, 4, 10, 110, 6, 8, 15, 1, 2, 20, 8, 12, 12, 6},
        {0, 40, 6, 90, 4, 4, 60, 2, 25, 110, 12, 25, 8, 8, 14, 12, 4, 8, 12, 6},
        {0, 120, 4, 60, 2, 2, 110, 0, 20, 14, 0, 10, 6, 0, 1, 4, 2, 4, 4, 2},
        {0, 20, 4, 40, 2, 2, 30, 1, 10, 50, 1, 160, 6, 5, 7, 6, 2, 4, 6, 4},
        {3, 40, 20, 60, 20, 10, 40, 4, 10, 90, 6, 8, 15, 3, 6, 20, 8, 12, 12, 6},
        {0, 300, 2, 30, 2, 2, 20, 2, 2, 20, 2, 2, 2, 1, 2, 2, 2, 2, 2, 2},
    };

    private static Random random;
    private static int sites;
    private static int hotObjects;

    // What the runs have come across: a run that never sees these tests too little.
    private static int fullRows;
    private static int fullTransactions;
    private static int tellsKept;
    private static int severalApplied;
    private static int lateCommits;
    private static int freesAtRestart;
    private static int sentBefore;

    private ModelTest() {
    }

    public static void main(String[] args) {
        for (int run = 0; run < RUNS; run++) {
            if (!oneRun(run)) {
                break;
            }
        }
        Due.due("full rows came", fullRows > 0, true);
        Due.due("200 transactions came", fullTransactions > 0, true);
        Due.due("kept TELLs came", tellsKept > 0, true);
        Due.due("several applied by one letter came", severalApplied > 0, true);
        Due.due("commits by a YES came", lateCommits > 0, true);
        Due.due("FREEs at a restart came", freesAtRestart > 0, true);
        Due.end("ModelTest");
    }

    private static boolean oneRun(int run) {
        random = new Random(run);
        SnapSites x = new SnapSites();
        PlainModel model = new PlainModel();
        int[] mood = MOODS[run % MOODS.length];
        sites = 2 + random.nextInt(4);
        hotObjects = 2 + random.nextInt(19);
        x.open(sites);
        model.open(sites);
        sentBefore = 0;
        for (int call = 1; call < CALLS; call++) {
            String name = CALLED[pick(mood)];
            int[] arguments = argumentsOf(name, model);
            long want = answer(model, name, arguments);
            long got = answer(x, name, arguments);
            if (got != want) {
                Due.fail("run " + run + ", call " + call + ": " + name + Arrays.toString(arguments) + " answered "
                        + got + ", due is " + want);
                return false;
            }
            notice(name, want, model);
        }
        return true;
    }

    private static int pick(int[] weights) {
        int sum = 0;
        for (int weight : weights) {
            sum += weight;
        }
        int left = random.nextInt(sum);
        int i = 0;
        while (left >= weights[i]) {
            left -= weights[i];
            i++;
        }
        return i;
    }

    private static void notice(String name, long answer, PlainModel model) {
        fullRows += model.total(1) == 300 ? 1 : 0;
        fullTransactions += model.total(0) == 200 ? 1 : 0;
        tellsKept += model.total(3) > 0 ? 1 : 0;
        severalApplied += name.equals("deliver") && answer > 1 && answer < OTHER ? 1 : 0;
        lateCommits += name.equals("deliver") && answer == 1 && model.total(2) > sentBefore ? 1 : 0;
        freesAtRestart += name.equals("restart") && model.total(2) > sentBefore ? 1 : 0;
        sentBefore = model.total(2);
    }

    /** A number below the bound, now and then one that is just outside or far away. */
    private static int upTo(int bound) {
        int kind = random.nextInt(60);
        if (kind == 0) {
            return -1;
        }
        if (kind == 1 || bound == 0) {
            return bound;
        }
        if (kind == 2) {
            return random.nextInt();
        }
        return random.nextInt(bound);
    }

    /** One of the last transactions mostly, since the old ones have ended. */
    private static int transaction(PlainModel model) {
        int all = model.total(0);
        if (all > 6 && random.nextInt(4) != 0) {
            return all - 1 - random.nextInt(6);
        }
        return upTo(all);
    }

    private static int object() {
        return random.nextInt(3) == 0 ? upTo(20) : upTo(hotObjects);
    }

    private static int by() {
        return random.nextInt(20) == 0 ? random.nextInt(7) - 3 : random.nextInt(2) * 2 - 1;
    }

    private static int[] argumentsOf(String name, PlainModel model) {
        switch (name) {
            case "open":
                sites = 2 + random.nextInt(4);
                return new int[] {random.nextInt(5) == 0 ? random.nextInt(9) - 1 : sites};
            case "begin":
            case "crash":
            case "restart":
                return new int[] {upTo(sites)};
            case "read":
                return new int[] {transaction(model), object()};
            case "write":
                return new int[] {transaction(model), object(), random.nextInt()};
            case "change":
                return new int[] {transaction(model), upTo(5), upTo(8), by()};
            case "count":
                return new int[] {transaction(model), upTo(5), upTo(8)};
            case "commit":
            case "abort":
            case "again":
                return new int[] {transaction(model)};
            case "deliver":
            case "drop":
            case "copy":
                return new int[] {upTo(model.total(1))};
            case "byteOf":
                return new int[] {upTo(model.total(1)), upTo(random.nextBoolean() ? 20 : 115)};
            case "about":
                return new int[] {transaction(model), upTo(5)};
            case "vector":
                return new int[] {upTo(sites), upTo(sites)};
            case "value":
            case "locked":
                return new int[] {upTo(sites), object()};
            default:
                return new int[] {upTo(5)};
        }
    }

    /** The program and the model have the same calls, so both are called by name; a boolean counts 1 or 0. */
    private static long answer(Object of, String name, int[] arguments) {
        Object[] boxed = Arrays.stream(arguments).boxed().toArray();
        Class<?>[] types = new Class<?>[boxed.length];
        Arrays.fill(types, int.class);
        try {
            Object answer = of.getClass().getDeclaredMethod(name, types).invoke(of, boxed);
            if (answer instanceof Boolean truth) {
                return truth ? 1 : 0;
            }
            return answer instanceof Integer number ? number : 0;
        } catch (InvocationTargetException e) {
            return exception(e.getCause().getClass());
        } catch (ReflectiveOperationException e) {
            throw new AssertionError(e);
        }
    }

    private static long exception(Class<?> thrown) {
        if (thrown == IllegalArgumentException.class) {
            return ARGUMENT;
        }
        return thrown == IllegalStateException.class ? STATE : OTHER;
    }
}
