import java.util.Arrays;
import java.util.Random;

/** Random runs of calls, each answer held against that of PlainValley; the seeds are fixed. */
final class RandomRunsTest {
    private static final int RUNS = 400;
    private static final int CALLS = 512;
    private static final int[] EDGES = {-5001, -5000, -51, -50, -4, -3, -1, 0, 1, 2, 3, 4, 5, 6, 7, 8, 10, 11, 17, 18,
        23, 24, 25, 50, 51, 63, 64, 100, 101, 500, 501, 999, 1000, 5000, 5001, 10000, 10001, 20000, 20001, 100000, 100001,
        Integer.MAX_VALUE, Integer.MIN_VALUE};
    private static final String[] CHANGES = {"ridge", "zone", "law", "feast", "air", "pass", "village", "lamp", "lamp",
        "lamp", "hours", "exempt", "outage", "vote", "vote", "inspect", "meter", "read", "read", "tell", "audit", "satellite"};
    private static final String[] QUESTIONS = {"time", "ofLamp", "ofVillage", "gives", "glow", "glowFrom", "ground",
        "way", "ofReading", "trend", "isHeld", "trails", "culprit", "plan"};

    private final Random random;
    /** Every third run hastens to the last time, so that lamps grow old and refits bind no more. */
    private final boolean hasty;
    private int villages = 0;
    private int lamps = 0;
    private int meters = 0;

    private RandomRunsTest(long seed) {
        random = new Random(seed);
        hasty = seed % 3 == 0;
    }

    public static void main(String[] args) {
        for (int run = 0; run < RUNS; run++) {
            new RandomRunsTest(run).compare(run);
        }
        Check.end();
    }

    private void compare(int run) {
        NightValley x = new NightValley();
        PlainValley plain = new PlainValley();
        for (int call = 0; call < CALLS; call++) {
            String name = nameOf(call);
            int[] a = arguments(name);
            if (random.nextInt(12) == 0 && a.length > 0) {
                a[random.nextInt(a.length)] = EDGES[random.nextInt(EDGES.length)];
            }
            String due = answerOf(() -> plain.call(name, a), false);
            String got = answerOf(() -> call(x, name, a), true);
            if (!due.equals(got)) {
                Check.due("run " + run + ", call " + call + ", " + name + Arrays.toString(a) + ": " + got + " instead of " + due, 0, 1);
                return;
            }
            Check.due(name, 0, 0);
            count(name, due);
        }
    }

    private String nameOf(int call) {
        if (call < 20 && random.nextInt(2) == 0) {
            return new String[] {"village", "lamp", "lamp", "meter"}[random.nextInt(4)];
        }
        if (hasty && random.nextInt(8) == 0) {
            return "pass";
        }
        String[] names = random.nextInt(5) < 3 ? CHANGES : QUESTIONS;
        return names[random.nextInt(names.length)];
    }

    private void count(String name, String due) {
        boolean answered = !due.startsWith("throws");
        villages += answered && name.equals("village") ? 1 : 0;
        lamps += answered && name.equals("lamp") ? 1 : 0;
        meters += answered && name.equals("meter") ? 1 : 0;
    }

    private interface Answer {
        long get();
    }

    private static String answerOf(Answer answer, boolean mustBeWritten) {
        try {
            return Long.toString(answer.get());
        } catch (RuntimeException thrown) {
            String name = "throws " + thrown.getClass().getName();
            return mustBeWritten && !Check.isWritten(thrown) ? name + " by the machine" : name;
        }
    }

    private int any(int least, int most) {
        return least + random.nextInt(most - least + 1);
    }

    /** Places near one another, so that lamps, ridges and meters meet. */
    private int place() {
        return random.nextBoolean() ? any(0, 63) : 8 * any(2, 4) + any(2, 5);
    }

    private int village() {
        return any(0, Math.max(villages - 1, 0));
    }

    private int lamp() {
        return any(0, Math.max(lamps - 1, 0));
    }

    private int meter() {
        return any(0, Math.max(meters - 1, 0));
    }

    private int flux() {
        return random.nextBoolean() ? any(1, 10000) : any(1, 3) * 100;
    }

    private int hoursToPass() {
        return hasty || random.nextInt(3) == 0 ? any(1, 500) : any(1, 30);
    }

    private int[] arguments(String name) {
        switch (name) {
            case "ridge": return new int[] {place(), any(0, 2) > 0 ? 1 : 0};
            case "zone": return new int[] {place(), any(0, 3)};
            case "law": return new int[] {any(0, 3), any(18, 24), any(0, 2), any(0, 10)};
            case "feast": return new int[] {any(0, 3), random.nextBoolean() ? any(0, 20) : any(0, 999)};
            case "air": return new int[] {any(0, 2)};
            case "pass": return new int[] {hoursToPass()};
            case "village": return new int[] {random.nextBoolean() ? any(1, 500) : any(1, 9), any(0, 200)};
            case "lamp": return new int[] {village(), place(), flux(), any(0, 2), any(0, 10)};
            case "hours": return new int[] {lamp(), any(0, 23), any(0, 23)};
            case "exempt": return new int[] {lamp(), any(0, 1)};
            case "outage": return new int[] {village(), any(0, 60)};
            case "vote": return vote();
            case "inspect": return new int[] {any(0, 3)};
            case "meter": return new int[] {place(), any(-50, 50), any(-3, 3)};
            case "tell": return new int[] {meter(), any(-5000, 5000)};
            case "audit": return new int[] {any(0, 3) * any(0, 3000)};
            case "satellite": return satellite();
            default: return argumentsOfQuestion(name);
        }
    }

    private int[] vote() {
        int yeses = random.nextBoolean() ? any(0, 5) : any(0, 300);
        return new int[] {lamp(), any(4, 10), any(0, 5), yeses, any(0, yeses)};
    }

    private int[] satellite() {
        int period = any(1, 100);
        return new int[] {period, any(0, period - 1)};
    }

    private int[] argumentsOfQuestion(String name) {
        switch (name) {
            case "time":
            case "isHeld": return new int[] {};
            case "ofLamp": return new int[] {lamp(), any(0, 6)};
            case "ofVillage": return new int[] {village(), any(0, 3)};
            case "gives": return new int[] {lamp(), place()};
            case "glowFrom": return new int[] {place(), any(0, 4)};
            case "way": return new int[] {place(), place(), any(0, 3) * any(0, 4000)};
            case "ofReading": return new int[] {meter(), any(0, 9), any(0, 2)};
            case "read":
            case "trend": return new int[] {meter()};
            case "trails": return new int[] {random.nextBoolean() ? any(0, 20000) : any(0, 600), any(1, 500)};
            case "plan": return new int[] {village(), place(), any(0, 120)};
            default: return new int[] {place()};
        }
    }

    private static long call(NightValley x, String name, int[] a) {
        switch (name) {
            case "ridge": return x.ridge(a[0], a[1] == 1) ? 1 : 0;
            case "zone": return x.zone(a[0], a[1]);
            case "law": x.law(a[0], a[1], a[2], a[3]); return 0;
            case "feast": return x.feast(a[0], a[1]);
            case "air": return x.air(a[0]);
            case "pass": return x.pass(a[0]);
            case "village": return x.village(a[0], a[1]);
            case "lamp": return x.lamp(a[0], a[1], a[2], a[3], a[4]);
            case "hours": x.hours(a[0], a[1], a[2]); return 0;
            case "exempt": return x.exempt(a[0], a[1] == 1) ? 1 : 0;
            case "outage": return x.outage(a[0], a[1]);
            case "vote": return x.vote(a[0], a[1], a[2], a[3], a[4]);
            case "inspect": return x.inspect(a[0]);
            case "meter": return x.meter(a[0], a[1], a[2]);
            case "read": return x.read(a[0]);
            case "tell": return x.tell(a[0], a[1]);
            case "audit": return x.audit(a[0]) ? 1 : 0;
            case "satellite": return x.satellite(a[0], a[1]);
            default: return ask(x, name, a);
        }
    }

    private static long ask(NightValley x, String name, int[] a) {
        switch (name) {
            case "time": return x.time();
            case "ofLamp": return x.ofLamp(a[0], a[1]);
            case "ofVillage": return x.ofVillage(a[0], a[1]);
            case "gives": return x.gives(a[0], a[1]);
            case "glow": return x.glow(a[0]);
            case "glowFrom": return x.glowFrom(a[0], a[1]);
            case "ground": return x.ground(a[0]);
            case "way": return x.way(a[0], a[1], a[2]);
            case "ofReading": return x.ofReading(a[0], a[1], a[2]);
            case "trend": return x.trend(a[0]);
            case "isHeld": return x.isHeld() ? 1 : 0;
            case "trails": return x.trails(a[0], a[1]);
            case "culprit": return x.culprit(a[0]);
            case "plan": return x.plan(a[0], a[1], a[2]);
            default: throw new AssertionError(name);
        }
    }
}
