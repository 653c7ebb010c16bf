/** Promises 15 to 17, 28 and 29: meter, read, tell, ofReading, trend. */
final class MeterTest {
    public static void main(String[] args) {
        meter();
        read();
        moon();
        keepsTen();
        tell();
        ofReading();
        trend();
        trendOfGreatNumbers();
        Check.end();
    }

    private static void meter() {
        NightValley x = new NightValley();
        Check.refused("PLACE 64", Check.INDEX, () -> x.meter(64, 51, 4));
        Check.refused("PLACE -1", Check.INDEX, () -> x.meter(-1, 0, 0));
        Check.refused("zero 51", Check.ARGUMENT, () -> x.meter(0, 51, 0));
        Check.refused("zero -51", Check.ARGUMENT, () -> x.meter(0, -51, 0));
        Check.refused("drift 4", Check.ARGUMENT, () -> x.meter(0, 0, 4));
        Check.refused("drift -4", Check.ARGUMENT, () -> x.meter(0, 0, -4));
        int[][] meters = {{0, -50, -3}, {63, 50, 3}, {5, 0, 0}, {5, 0, 0}, {5, 0, 0}, {5, 0, 0}, {5, 0, 0}, {5, 0, 0}};
        for (int i = 0; i < meters.length; i++) {
            Check.due("meter", x.meter(meters[i][0], meters[i][1], meters[i][2]), i);
        }
        Check.refused("a ninth meter", Check.STATE, () -> x.meter(0, 0, 0));
        Check.refused("a ninth, out of range", Check.ARGUMENT, () -> x.meter(0, 51, 0));
        Check.refused("a ninth at no PLACE", Check.INDEX, () -> x.meter(64, 0, 0));
        Check.due("the least zero", x.read(0), -30);
        Check.due("the greatest zero", x.read(1), 70);
    }

    private static void read() {
        NightValley x = new NightValley();
        x.village(1, 0);
        x.lamp(0, 9, 100, NightValley.WARM, 0);
        x.meter(9, 5, 2);
        x.meter(10, -7, -3);
        Check.due("at the lamp", x.read(0), 200 + 0 + 20 + 5);
        Check.due("beside it", x.read(1), 100 + 0 + 20 - 7);
        x.pass(49);
        Check.due("day 2 at HOUR 1", x.read(0), 200 + 8 + 20 + 5 + 4);
        Check.due("a drift below 0", x.read(1), 100 + 8 + 20 - 7 - 6);
        x.pass(10);
        Check.due("in the day", x.read(0), 0 + 0 + 20 + 5 + 4);
        Check.refused("read(2)", Check.INDEX, () -> x.read(2));
        Check.refused("read(-1)", Check.INDEX, () -> x.read(-1));
    }

    private static void moon() {
        NightValley x = new NightValley();
        x.meter(0, 0, 0);
        for (int hour = 0; hour < 24; hour++) {
            int moon = hour >= 6 && hour <= 17 ? 0 : 4;
            x.pass(hour == 0 ? 24 : 1);
            Check.due("moon of day 1 at HOUR " + hour, x.read(0), 20 + moon);
        }
        x.pass(1);
        for (int day = 2; day <= 65; day++) {
            int far = day % 30 > 15 ? day % 30 - 15 : 15 - day % 30;
            Check.due("moon of day " + day, x.read(0), 20 + 4 * (15 - far));
            x.pass(24);
        }
    }

    private static void keepsTen() {
        NightValley x = new NightValley();
        x.meter(0, 0, 0);
        Check.refused("no READING yet", Check.INDEX, () -> x.ofReading(0, 0, 0));
        for (int i = 0; i < 10; i++) {
            x.read(0);
            Check.due("the newest one", x.ofReading(0, i, 0), i);
            x.pass(1);
        }
        Check.refused("READING 10", Check.INDEX, () -> x.ofReading(0, 10, 0));
        Check.due("the oldest of ten", x.ofReading(0, 0, 0), 0);
        x.read(0);
        Check.due("the oldest is gone", x.ofReading(0, 0, 0), 1);
        Check.due("the newest of ten", x.ofReading(0, 9, 0), 10);
        Check.refused("still ten", Check.INDEX, () -> x.ofReading(0, 10, 0));
        x.read(0);
        Check.due("two are gone", x.ofReading(0, 0, 0), 2);
        Check.due("two of one time", x.ofReading(0, 8, 0), 10);
    }

    private static void tell() {
        NightValley x = new NightValley();
        x.meter(0, 5, 0);
        x.meter(0, 5, 0);
        x.read(0);
        x.read(1);
        Check.due("tell(0, 5)", x.tell(0, 5), 0);
        Check.due("READINGS of before too", x.ofReading(0, 0, 2), 0);
        Check.due("the value is left", x.ofReading(0, 0, 1), 25);
        Check.due("the other meter is left", x.ofReading(1, 0, 2), 5);
        Check.due("tell(0, -5000)", x.tell(0, -5000), 5);
        Check.due("tell(0, 5000)", x.tell(0, 5000), -5000);
        Check.refused("tell(2, 5001)", Check.INDEX, () -> x.tell(2, 5001));
        Check.refused("tell(-1, 0)", Check.INDEX, () -> x.tell(-1, 0));
        Check.refused("tell(0, 5001)", Check.ARGUMENT, () -> x.tell(0, 5001));
        Check.refused("tell(0, -5001)", Check.ARGUMENT, () -> x.tell(0, -5001));
        Check.due("corrected by 5000", x.ofReading(0, 0, 2), -4995);
        Check.due("its true zero is left", x.read(0), 25);
    }

    private static void ofReading() {
        NightValley x = new NightValley();
        x.meter(0, 3, 1);
        x.pass(50);
        x.read(0);
        x.pass(12);
        x.read(0);
        x.tell(0, 1);
        int[][] due = {{50, 33, 4}, {62, 25, 4}};
        for (int reading = 0; reading < 2; reading++) {
            for (int what = 0; what < 3; what++) {
                Check.due("ofReading(0, " + reading + ", " + what + ")", x.ofReading(0, reading, what), due[reading][what]);
            }
        }
        Check.refused("no meter", Check.INDEX, () -> x.ofReading(1, 0, 3));
        Check.refused("meter -1", Check.INDEX, () -> x.ofReading(-1, 0, 0));
        Check.refused("READING 2", Check.INDEX, () -> x.ofReading(0, 2, 3));
        Check.refused("READING -1", Check.INDEX, () -> x.ofReading(0, -1, 0));
        Check.refused("what 3", Check.ARGUMENT, () -> x.ofReading(0, 0, 3));
        Check.refused("what -1", Check.ARGUMENT, () -> x.ofReading(0, 0, -1));
    }

    private static void trend() {
        NightValley x = new NightValley();
        x.village(1, 0);
        x.lamp(0, 0, 10, 0, 0);
        x.meter(0, 0, 0);
        Check.refused("trend of no meter", Check.INDEX, () -> x.trend(1));
        Check.refused("trend of meter -1", Check.INDEX, () -> x.trend(-1));
        Check.refused("no READING", Check.STATE, () -> x.trend(0));
        x.read(0);
        Check.refused("one READING", Check.STATE, () -> x.trend(0));
        x.outage(0, 1);
        x.read(0);
        Check.refused("two of one time", Check.STATE, () -> x.trend(0));
        x.outage(0, 0);
        x.pass(3);
        x.read(0);
        // times 0, 0, 3; values 10, 0, 10: (3 * 30 - 3 * 20) / (3 * 9 - 9)
        Check.due("upwards", x.trend(0), 1000 * 30 / 18);
        x.outage(0, 500);
        x.pass(1);
        x.read(0);
        // times 0, 0, 3, 4; values 10, 0, 10, 0: (4 * 30 - 7 * 20) / (4 * 25 - 49)
        Check.due("downwards, towards 0", x.trend(0), -20000 / 51);
        x.tell(0, 4000);
        Check.due("the told zero shifts it not", x.trend(0), -20000 / 51);
        for (int i = 0; i < 10; i++) {
            x.read(0);
        }
        Check.refused("ten of one time are kept", Check.STATE, () -> x.trend(0));
    }

    private static void trendOfGreatNumbers() {
        NightValley x = new NightValley();
        for (int village = 0; village < 4; village++) {
            x.village(1, 0);
            for (int lamp = 0; lamp < 10; lamp++) {
                x.lamp(village, 0, 10000, NightValley.COLD, 0);
            }
        }
        x.air(NightValley.CLOUDY);
        x.meter(0, 0, 0);
        for (int village = 0; village < 4; village++) {
            x.outage(village, 500);
        }
        for (int time = 0; time < 19500; time += 500) {
            x.pass(500);
        }
        x.pass(495);
        for (int i = 0; i < 5; i++) {
            x.read(0);
        }
        x.pass(5);
        for (int i = 0; i < 5; i++) {
            Check.due("the greatest GLOW but for the AGE", x.read(0) > 0, true);
        }
        long rise = x.ofReading(0, 9, 2) - x.ofReading(0, 0, 2);
        Check.due("a rise by 5 hours", x.trend(0), 1000 * rise / 5);
    }
}
