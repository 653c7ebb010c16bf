/** The edges of promises 19 and 31: satellite, trails. */
final class SatelliteEdgesTest {
    public static void main(String[] args) {
        Edges.run(SatelliteEdgesTest.class);
    }

    private static NightValley withSatellite(int period, int phase) {
        NightValley x = new NightValley();
        x.satellite(period, phase);
        return x;
    }

    private static boolean isNight(int time) {
        return time % 24 >= 18 || time % 24 < 6;
    }

    // ---- promise 19: satellite

    @Holds(promise = 19, sentence = {"`period`: 1 to 100", "Throws `IllegalArgumentException` if period or phase is out of range"})
    private static void satelliteTakesPeriods1And100() {
        NightValley x = new NightValley();
        Edges.refusesArgument("satellite by period", 1, 100, period -> x.satellite(period, 0));
        Check.due("a period of 1", x.satellite(1, 0), 0);
        Check.due("one pass at each time", x.trails(0, 6), 6);
        Check.due("a period of 100", x.satellite(100, 0), 1);
        Check.due("and one at 0", x.trails(0, 6), 7);
        Check.due("and one at 600", x.trails(600, 1), 2);
        Check.due("and none at 599", x.trails(599, 1), 1);
    }

    @Holds(promise = 19, sentence = {"`phase`: 0 to period less 1", "Throws `IllegalArgumentException` if period or phase is out of range"})
    private static void satelliteTakesPhases0ToThePeriodLess1() {
        for (int period : new int[] {1, 2, 5, 100}) {
            NightValley x = new NightValley();
            Edges.refusesArgument("satellite of period " + period, 0, period - 1, phase -> x.satellite(period, phase));
            Check.due("phase 0 of " + period, x.satellite(period, 0), 0);
            Check.due("the last phase of " + period, x.satellite(period, period - 1), 1);
        }
        NightValley x = new NightValley();
        Check.refused("period 0, phase -1", Check.ARGUMENT, () -> x.satellite(0, -1));
        Check.refused("period 101, phase 100", Check.ARGUMENT, () -> x.satellite(101, 100));
    }

    @Holds(promise = 19, sentence = {"Tells a satellite.", "Returns its number.", "Satellites are numbered from 0, at most 10",
        "Throws `IllegalStateException` if there are 10"})
    private static void satelliteTakes10AndRefusesTheEleventh() {
        NightValley x = new NightValley();
        for (int i = 0; i < 10; i++) {
            Check.due("satellite " + i, x.satellite(1, 0), i);
            Check.due("passes at once by " + (i + 1), x.trails(0, 1), i + 1);
        }
        Check.refused("an eleventh", Check.STATE, () -> x.satellite(1, 0));
        Check.refused("an eleventh of a period of 100", Check.STATE, () -> x.satellite(100, 99));
        Check.due("passes at once by 10", x.trails(0, 1), 10);
        Check.due("passes of 500 hours by 10", x.trails(0, 500), 2480);
    }

    // ---- promise 31: trails

    @Holds(promise = 31, sentence = {"`from`: a time, 0 to 20000", "Throws `IllegalArgumentException` if from or hours is out of range"})
    private static void trailsTakesFrom0And20000() {
        NightValley x = withSatellite(1, 0);
        Edges.refusesArgument("trails by from", 0, 20000, from -> x.trails(from, 1));
        Check.due("trails(0, 1)", x.trails(0, 1), 1);
        Check.due("trails(20000, 1), HOUR 8", x.trails(20000, 1), 0);
        // of the hours 8, 9, .. 17 there are 10 ahead of the first night
        Check.due("trails(20000, 10)", x.trails(20000, 10), 0);
        Check.due("trails(20000, 11)", x.trails(20000, 11), 1);
        Check.due("trails(20000, 500)", x.trails(20000, 500), 20 * 12 + 10);
    }

    @Holds(promise = 31, sentence = {"`hours`: 1 to 500", "Throws `IllegalArgumentException` if from or hours is out of range"})
    private static void trailsTakes1And500Hours() {
        NightValley x = withSatellite(1, 0);
        Edges.refusesArgument("trails by hours", 1, 500, hours -> x.trails(0, hours));
        Check.due("1 hour", x.trails(5, 1), 1);
        Check.due("2 hours, the second by day", x.trails(5, 2), 1);
        Check.due("500 hours", x.trails(0, 500), 20 * 12 + 6 + 2);
    }

    @Holds(promise = 31, sentence = {"Returns the trails of some hours from a time on.", "Returns how many.",
        "Trails of some hours from a time on are all passes at these times"})
    private static void trailsAreFromTheFirstToTheLastHour() {
        NightValley x = withSatellite(100, 20);
        Check.due("at the time itself", x.trails(20, 1), 1);
        Check.due("to the hour ahead", x.trails(10, 10), 0);
        Check.due("to the hour itself", x.trails(10, 11), 1);
        Check.due("from the hour behind", x.trails(21, 99), 0);
        // 120 is at HOUR 0
        Check.due("to the next pass", x.trails(21, 100), 1);
        Check.due("both passes", x.trails(20, 101), 2);
    }

    @Holds(promise = 31, sentence = "whose HOUR is 18 or more, or below 6")
    private static void trailsAreFromHour18To5() {
        NightValley x = withSatellite(1, 0);
        for (int time = 0; time < 72; time++) {
            Check.due("at " + time, x.trails(time, 1), isNight(time) ? 1 : 0);
        }
        Check.due("from 17 to 18", x.trails(17, 2), 1);
        Check.due("from 5 to 6", x.trails(5, 2), 1);
        Check.due("from 6 to 17", x.trails(6, 12), 0);
        Check.due("from 18 to 5", x.trails(18, 12), 12);
    }

    @Holds(promise = 31, sentence = "a satellite passes at each time whose remainder by its period is its phase")
    private static void trailsAreByTheRemainderOfThePeriod() {
        int[][] satellites = {{7, 0}, {7, 6}, {24, 0}, {24, 5}, {24, 18}, {24, 23}, {100, 0}, {100, 99}, {1, 0}, {2, 1}};
        for (int[] satellite : satellites) {
            NightValley x = withSatellite(satellite[0], satellite[1]);
            for (int from : new int[] {0, 1, satellite[1], satellite[0], 9999, 19999, 20000}) {
                int due = 0;
                for (int time = satellite[1]; time < from + 300; time += satellite[0]) {
                    due += time >= from && isNight(time) ? 1 : 0;
                }
                Check.due("period " + satellite[0] + ", phase " + satellite[1] + ", from " + from, x.trails(from, 300), due);
            }
        }
        Check.due("a satellite of HOUR 6", withSatellite(24, 6).trails(0, 500), 0);
        Check.due("a satellite of HOUR 17", withSatellite(24, 17).trails(0, 500), 0);
    }

    @Holds(promise = 31, sentence = "of all satellites")
    private static void trailsAreOfNoneAndOfAll() {
        NightValley x = new NightValley();
        Check.due("of none", x.trails(0, 500), 0);
        x.satellite(24, 0);
        x.satellite(24, 0);
        x.satellite(48, 24);
        Check.due("two at 0", x.trails(0, 1), 2);
        Check.due("three at 24", x.trails(24, 1), 3);
        Check.due("all of two days", x.trails(0, 48), 5);
    }

    @Holds(promise = 31, sentence = "Trails of some hours from a time on are all passes at these times")
    private static void trailsDoNotLookAtTheTimeNow() {
        NightValley x = new NightValley();
        Edges.passTo(x, 5000);
        x.satellite(24, 0);
        Check.due("ahead of now", x.trails(0, 24), 1);
        Check.due("now", x.trails(5000, 24), 1);
        Check.due("behind the last time", x.trails(20000, 24), 1);
    }
}
