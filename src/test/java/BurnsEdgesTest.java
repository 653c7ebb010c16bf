/** The edges of when a lamp BURNS and of its LIGHT, in each promise that these terms matter to. */
final class BurnsEdgesTest {
    private static final int PLACE = 9;
    private static final int FLUX = 100;

    public static void main(String[] args) {
        Edges.run(BurnsEdgesTest.class);
    }

    /** The lamp 0 at PLACE 9, with its hours as at first, and a meter there. */
    private static NightValley withLampAndMeter() {
        NightValley x = Edges.withVillage(100, 10000);
        x.lamp(0, PLACE, FLUX, NightValley.AMBER, 0);
        x.meter(PLACE, 0, 0);
        return x;
    }

    private static int moonAt(int time) {
        int day = time / 24 % 30;
        boolean isDay = time % 24 >= 6 && time % 24 <= 17;
        return isDay ? 0 : 4 * (day <= 15 ? day : 30 - day);
    }

    /** All that is asked of the lamp 0 and of its PLACE, if this is its LIGHT, or 0 as it does not BURN. */
    private static void checkAll(String when, NightValley x, boolean burns, int light) {
        int given = burns ? light : 0;
        Check.due("ofLamp(0, 0) " + when, x.ofLamp(0, 0), burns ? 1 : 0);
        Check.due("ofLamp(0, 1) " + when, x.ofLamp(0, 1), light);
        Check.due("ofVillage(0, 2) " + when, x.ofVillage(0, 2), burns ? 1 : 0);
        Check.due("gives(0, 9) " + when, x.gives(0, PLACE), given);
        Check.due("glow(9) " + when, x.glow(PLACE), given);
        Check.due("glowFrom(9, OVERHEAD) " + when, x.glowFrom(PLACE, NightValley.OVERHEAD), given);
        Check.due("glowFrom(8, EAST) " + when, x.glowFrom(PLACE - 1, NightValley.EAST), given / 2);
        Check.due("ground(9) " + when, x.ground(PLACE), given);
        Check.due("way(9, 9, " + given + ") " + when, x.way(PLACE, PLACE, given), 0);
        if (given > 0) {
            Check.due("way below " + given + " " + when, x.way(PLACE, PLACE, given - 1), NightValley.NONE);
        }
        Check.due("culprit(9) " + when, x.culprit(PLACE), given > 0 ? 0 : NightValley.NONE);
        Check.due("plan(0, 9, 20) " + when, x.plan(0, PLACE, 20), given > 0 ? 1 : 0);
        Check.due("read(0) " + when, x.read(0), given + 20 + moonAt(x.time()));
    }

    /** The AGE by the hour that passes, too. */
    private static void checkHour(String when, NightValley x, boolean burns) {
        int age = x.ofLamp(0, 2);
        checkAll(when, x, burns, FLUX * (100 - age / 100) / 100);
        x.pass(1);
        Check.due("AGE by the hour " + when, x.ofLamp(0, 2), age + (burns ? 1 : 0));
    }

    @Holds(promise = {7, 16, 21, 22, 23, 24, 25, 26, 27, 32, 33},
        sentence = "the HOUR is one of its hours (if they are from a to b: from a to b less 1, if a is below b")
    private static void burnsFromALowerToAHigherHour() {
        NightValley x = withLampAndMeter();
        x.hours(0, 3, 20);
        for (int time = 0; time < 24; time++) {
            checkHour("from 3 to 20 at " + time, x, time >= 3 && time <= 19);
        }
    }

    @Holds(promise = {7, 16, 21, 22, 23, 24, 25, 26, 27, 32, 33},
        sentence = "from a on or below b, if a is above b")
    private static void burnsFromAHigherToALowerHour() {
        NightValley x = withLampAndMeter();
        for (int time = 0; time < 24; time++) {
            checkHour("from 18 to 6 at " + time, x, time >= 18 || time < 6);
        }
    }

    @Holds(promise = {7, 16, 21, 22, 23, 24, 25, 26, 27, 32, 33},
        sentence = "any HOUR, if both are the same")
    private static void burnsFromAnHourToTheSame() {
        NightValley x = withLampAndMeter();
        x.hours(0, 7, 7);
        for (int time = 0; time < 24; time++) {
            checkHour("from 7 to 7 at " + time, x, true);
        }
    }

    @Holds(promise = {7, 16, 21, 22, 23, 24, 25, 26, 27, 32, 33},
        sentence = "its village has no outage at that time")
    private static void burnsBehindTheOutage() {
        NightValley x = withLampAndMeter();
        x.hours(0, 0, 0);
        x.exempt(0, true);
        x.feast(0, 0);
        checkHour("ahead of an outage", x, true);
        x.outage(0, 3);
        for (int time = 1; time <= 3; time++) {
            checkHour("in an outage at " + time, x, false);
        }
        checkHour("behind an outage", x, true);
    }

    @Holds(promise = {7, 16, 21, 22, 23, 24, 25, 26, 27, 32, 33},
        sentence = "its ZONE has no curfew, or the HOUR is below the curfew, but not below 6")
    private static void burnsBelowTheCurfewButNotBelow6() {
        for (int curfew : new int[] {18, 21, 23, 24}) {
            NightValley x = withLampAndMeter();
            x.hours(0, 0, 0);
            x.law(0, curfew, NightValley.COLD, 0);
            for (int time = 0; time < 24; time++) {
                checkHour("curfew " + curfew + " at " + time, x, curfew == 24 || (time >= 6 && time < curfew));
            }
        }
    }

    @Holds(promise = {7, 16, 21, 22, 23, 24, 25, 26, 27, 32, 33},
        sentence = "or the lamp is exempt, or its ZONE has a feast on that day")
    private static void burnsInACurfewIfExemptOrOnAFeast() {
        NightValley x = withLampAndMeter();
        x.law(0, 18, NightValley.COLD, 0);
        x.feast(0, 1);
        x.feast(1, 0);
        checkHour("not exempt, no feast in its ZONE", x, false);
        x.exempt(0, true);
        checkHour("exempt", x, true);
        x.exempt(0, false);
        checkHour("exempt no more", x, false);
        x.pass(19);
        for (int time = 22; time < 30; time++) {
            checkHour("day 1 is a feast, at " + time, x, time >= 24);
        }
        checkHour("on a feast, but not in its hours", x, false);
        x.exempt(0, true);
        checkHour("exempt, but not in its hours", x, false);
    }

    @Holds(promise = {16, 21, 23, 24, 25, 26, 27, 32, 33}, sentence =
        "its FLUX times (100 less the AGE divided by 100, or less 50, if that is less than it), divided by 100")
    private static void lightByTheAge() {
        int[][] lights = {{0, 100}, {99, 100}, {100, 99}, {199, 99}, {200, 98}, {4899, 52}, {4900, 51}, {4999, 51},
            {5000, 50}, {5099, 50}, {5100, 50}, {9999, 50}, {10000, 50}, {20000, 50}};
        NightValley x = withLampAndMeter();
        x.hours(0, 0, 0);
        for (int[] light : lights) {
            Edges.passTo(x, light[0]);
            checkAll("at AGE " + light[0], x, true, light[1]);
        }
    }

    @Holds(promise = {16, 21, 23, 24, 25, 26, 27, 32, 33},
        sentence = "then that times (10 less its DIM), divided by 10")
    private static void lightByTheDim() {
        for (int dim = 0; dim <= 10; dim++) {
            NightValley x = Edges.withVillage(1, 100);
            x.lamp(0, PLACE, 19, NightValley.AMBER, 0);
            x.meter(PLACE, 0, 0);
            if (dim > 0) {
                x.vote(0, 0, dim, 1, 0);
            }
            int light = 19 * (10 - dim) / 10;
            Check.due("LIGHT by DIM " + dim, x.ofLamp(0, 1), light);
            Check.due("gives by DIM " + dim, x.gives(0, PLACE), light);
            Check.due("glow by DIM " + dim, x.glow(PLACE), light);
            Check.due("glowFrom by DIM " + dim, x.glowFrom(PLACE, NightValley.OVERHEAD), light);
            Check.due("ground by DIM " + dim, x.ground(PLACE), light);
            Check.due("way by DIM " + dim, x.way(PLACE, PLACE, light), 0);
            Check.due("culprit by DIM " + dim, x.culprit(PLACE), dim < 10 ? 0 : NightValley.NONE);
            Check.due("read by DIM " + dim, x.read(0), light + 20);
            Check.due("it BURNS by DIM " + dim, x.ofLamp(0, 0), 1);
        }
    }

    @Holds(promise = {16, 21, 23, 24, 25, 26, 27}, sentence = "products are made ahead of being divided")
    private static void lightIsDividedTwice() {
        // 13 * 99 / 100 is 12, and 12 * 8 / 10 is 9; in one it would be 10
        // 3 * 99 / 100 is 2, and 2 * 5 / 10 is 1; by the DIM first it would be 0
        for (int[] lamp : new int[][] {{13, 2, 9}, {3, 5, 1}}) {
            int light = lamp[2];
            NightValley x = Edges.withLamp(PLACE, lamp[0], NightValley.AMBER, 0);
            x.meter(PLACE, 0, 0);
            x.vote(0, 0, lamp[1], 50, 0);
            x.pass(100);
            Check.due("LIGHT", x.ofLamp(0, 1), light);
            Check.due("gives", x.gives(0, PLACE), light);
            Check.due("glow", x.glow(PLACE), light);
            Check.due("glowFrom", x.glowFrom(PLACE, NightValley.OVERHEAD), light);
            Check.due("ground", x.ground(PLACE), light);
            Check.due("way below it", x.way(PLACE, PLACE, light - 1), NightValley.NONE);
            Check.due("way by it", x.way(PLACE, PLACE, light), 0);
            Check.due("read", x.read(0), light + 20 + moonAt(100));
        }
    }

    @Holds(promise = {21, 23, 26}, sentence = "The LIGHT of a lamp is its FLUX times")
    private static void lightOfTheLeastFlux() {
        NightValley x = Edges.withLamp(PLACE, 1, NightValley.AMBER, 0);
        Check.due("LIGHT at AGE 0", x.ofLamp(0, 1), 1);
        x.pass(99);
        Check.due("LIGHT at AGE 99", x.ofLamp(0, 1), 1);
        Check.due("gives at AGE 99", x.gives(0, PLACE), 1);
        x.pass(1);
        Check.due("LIGHT at AGE 100", x.ofLamp(0, 1), 0);
        Check.due("gives at AGE 100", x.gives(0, PLACE), 0);
        Check.due("ground at AGE 100", x.ground(PLACE), 0);
        Check.due("it BURNS still", x.ofLamp(0, 0), 1);
    }
}
