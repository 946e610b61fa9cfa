import java.util.Map;
import java.util.Random;
import java.util.TreeMap;

/** Long runs of calls, always the same ones, on MoorWatch and on SlowBerth: every answer must agree. */
final class AgainstSlowBerthTest {
    private static final int RUNS = 150;
    private static final int CALLS = 512;
    private static final String[] KINDS = {"addBollard", "addLine", "toggle", "setTide", "setLoad", "setWind",
        "setPassing", "force", "shift", "isAdrift", "length", "tension", "onBollard", "isSafe", "firstUnsafe", "tend",
        "tendAll", "plan"};

    // What was answered how often: a run that never sees a plan succeed would show nothing about plans.
    private static final Map<String, Integer> SEEN = new TreeMap<>();

    public static void main(String[] args) {
        for (int run = 0; run < RUNS; run++) {
            run(run);
        }
        for (String seen : new String[] {"isAdrift true", "isAdrift false", "isSafe true", "isSafe false", "plan -1",
            "plan 0", "plan 1", "plan 2", "plan 3", "firstUnsafe -1", "tendAll 3"}) {
            Check.due("the runs see: " + seen, true, () -> SEEN.getOrDefault(seen, 0) >= 5);
        }
        Check.finish();
    }

    private static void run(int seed) {
        Random random = new Random(seed);
        MoorWatch x = new MoorWatch();
        SlowBerth slow = new SlowBerth();
        int built = seed % 3 == 0 ? 0 : build(random, x, slow);
        for (int call = built; call < CALLS; call++) {
            String kind = KINDS[kindOf(random, call)];
            int[] a = argumentsOf(random, kind, seed % 2 == 0);
            compare(seed, x, slow, kind, a);
        }
    }

    // Lines drawn to both sides with strengths about what tides do to them, so that hours are safe and unsafe.
    private static int build(Random random, MoorWatch x, SlowBerth slow) {
        int[] places = {1500, -1500, 700, -700};
        int calls = 0;
        for (int place : places) {
            compare(-1, x, slow, "addBollard", new int[] {place, 1500 + random.nextInt(6000), 0, 0});
            calls++;
        }
        for (int line = 0; line < 4 + random.nextInt(3); line++) {
            int bollard = line % 4;
            int point = places[bollard] / 2 + random.nextInt(101) - 50;
            int[] a = {point, bollard, 5 + random.nextInt(10), 1500 + random.nextInt(2000)};
            compare(-1, x, slow, "addLine", a);
            calls++;
        }
        for (int hour = 0; hour < 48; hour++) {
            int tide = (int) Math.round(120 * Math.sin(hour / 4.0)) + random.nextInt(21);
            compare(-1, x, slow, "setTide", new int[] {hour, tide, 0, 0});
            calls++;
        }
        return calls;
    }

    private static int kindOf(Random random, int call) {
        if (call < 14) {
            return random.nextInt(2);
        }
        int kind = random.nextInt(KINDS.length);
        // More bollards and lines are rare once the berth stands.
        return kind < 2 && random.nextInt(8) > 0 ? 17 : kind;
    }

    private static int[] argumentsOf(Random random, String kind, boolean calm) {
        int hour = near(random, 0, 47);
        int reach = calm ? 40 : 200;
        int force = calm ? 300 : 1000000;
        return switch (kind) {
            case "addBollard" -> new int[] {near(random, -5000, 5000), near(random, 1, 1000000), 0, 0};
            case "addLine" -> new int[] {near(random, -5000, 5000), near(random, 0, 5), near(random, 1, 100),
                near(random, 1, calm ? 3000 : 1000000)};
            case "toggle" -> new int[] {near(random, 0, 9), 0, 0, 0};
            case "setTide", "setLoad" -> new int[] {hour, near(random, -reach, reach), 0, 0};
            case "setWind" -> new int[] {near(random, -force, force), 0, 0, 0};
            case "setPassing" -> new int[] {hour, near(random, -force, force), 0, 0};
            case "force" -> new int[] {hour, near(random, -200, 200), 0, 0};
            case "length", "tension" -> new int[] {near(random, 0, 9), hour, 0, 0};
            case "onBollard" -> new int[] {near(random, 0, 5), hour, 0, 0};
            case "tend" -> new int[] {near(random, 0, 9), hour, near(random, -100, 100), 0};
            case "plan" -> new int[] {hour, hour + near(random, -1, 20), 0, 0};
            default -> new int[] {hour, 0, 0, 0};
        };
    }

    /** Mostly within the range, now and then at its ends, just beyond them or far off. */
    private static int near(Random random, int least, int greatest) {
        int[] odd = {least, greatest, least - 1, greatest + 1, Integer.MIN_VALUE, Integer.MAX_VALUE};
        int which = random.nextInt(150);
        return which < odd.length ? odd[which] : least + random.nextInt(greatest - least + 1);
    }

    private static void compare(int seed, MoorWatch x, SlowBerth slow, String kind, int[] a) {
        String want = Check.answerOf(() -> onSlow(slow, kind, a));
        SEEN.merge(kind + " " + want, 1, Integer::sum);
        String what = "run " + seed + ": " + kind + "(" + a[0] + ", " + a[1] + ", " + a[2] + ", " + a[3] + ")";
        Check.due(what, want, () -> onMoorWatch(x, kind, a));
    }

    private static Object onMoorWatch(MoorWatch x, String kind, int[] a) {
        return switch (kind) {
            case "addBollard" -> x.addBollard(a[0], a[1]);
            case "addLine" -> x.addLine(a[0], a[1], a[2], a[3]);
            case "toggle" -> x.toggle(a[0]);
            case "setTide" -> x.setTide(a[0], a[1]);
            case "setLoad" -> x.setLoad(a[0], a[1]);
            case "setWind" -> x.setWind(a[0]);
            case "setPassing" -> x.setPassing(a[0], a[1]);
            case "force" -> x.force(a[0], a[1]);
            case "shift" -> x.shift(a[0]);
            case "isAdrift" -> x.isAdrift(a[0]);
            case "length" -> x.length(a[0], a[1]);
            case "tension" -> x.tension(a[0], a[1]);
            case "onBollard" -> x.onBollard(a[0], a[1]);
            case "isSafe" -> x.isSafe(a[0]);
            case "firstUnsafe" -> x.firstUnsafe(a[0]);
            case "tend" -> x.tend(a[0], a[1], a[2]);
            case "tendAll" -> x.tendAll(a[0]);
            default -> x.plan(a[0], a[1]);
        };
    }

    private static Object onSlow(SlowBerth x, String kind, int[] a) {
        return switch (kind) {
            case "addBollard" -> x.addBollard(a[0], a[1]);
            case "addLine" -> x.addLine(a[0], a[1], a[2], a[3]);
            case "toggle" -> x.toggle(a[0]);
            case "setTide" -> x.setTide(a[0], a[1]);
            case "setLoad" -> x.setLoad(a[0], a[1]);
            case "setWind" -> x.setWind(a[0]);
            case "setPassing" -> x.setPassing(a[0], a[1]);
            case "force" -> x.force(a[0], a[1]);
            case "shift" -> x.shift(a[0]);
            case "isAdrift" -> x.isAdrift(a[0]);
            case "length" -> x.length(a[0], a[1]);
            case "tension" -> x.tension(a[0], a[1]);
            case "onBollard" -> x.onBollard(a[0], a[1]);
            case "isSafe" -> x.isSafe(a[0]);
            case "firstUnsafe" -> x.firstUnsafe(a[0]);
            case "tend" -> x.tend(a[0], a[1], a[2]);
            case "tendAll" -> x.tendAll(a[0]);
            default -> x.plan(a[0], a[1]);
        };
    }
}
