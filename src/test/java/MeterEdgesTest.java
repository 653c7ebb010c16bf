/** The edges of promises 15 to 17, 28 and 29: meter, read, tell, ofReading, trend. */
final class MeterEdgesTest {
    public static void main(String[] args) {
        Edges.run(MeterEdgesTest.class);
    }

    /** A valley without lamps, with a meter at PLACE 0. */
    private static NightValley withMeter(int zero, int drift) {
        NightValley x = new NightValley();
        x.meter(0, zero, drift);
        return x;
    }

    private static void addMeters(NightValley x, int count) {
        for (int i = 0; i < count; i++) {
            x.meter(0, 0, 0);
        }
    }

    // ---- promise 15: meter

    @Holds(promise = 15, sentence = {"`place`: 0 to 63", "Throws `IndexOutOfBoundsException` if there is no such PLACE"})
    private static void meterTakesPlaces0And63() {
        NightValley x = Edges.withLamp(0, 100, 0, 0);
        Edges.addLamp(x, 0, 63, 200, 0, 0);
        Edges.refusesIndex("meter by place", 64, place -> x.meter(place, 0, 0));
        Check.due("meter at 0", x.meter(0, 0, 0), 0);
        Check.due("meter at 63", x.meter(63, 0, 0), 1);
        Check.due("read at 0", x.read(0), 120 + 200 / 99);
        Check.due("read at 63", x.read(1), 220 + 100 / 99);
    }

    @Holds(promise = 15, sentence = {"`zero`: -50 to 50: its true zero",
        "Throws `IllegalArgumentException` if zero or drift is out of range"})
    private static void meterTakesZerosFromMinus50To50() {
        NightValley x = new NightValley();
        Edges.refusesArgument("meter by zero", -50, 50, zero -> x.meter(0, zero, 0));
        x.meter(0, -50, 0);
        x.meter(0, 50, 0);
        Check.due("read by zero -50", x.read(0), -30);
        Check.due("read by zero 50", x.read(1), 70);
    }

    @Holds(promise = 15, sentence = {"`drift`: -3 to 3",
        "Throws `IllegalArgumentException` if zero or drift is out of range"})
    private static void meterTakesDriftsFromMinus3To3() {
        NightValley x = new NightValley();
        Edges.refusesArgument("meter by drift", -3, 3, drift -> x.meter(0, 0, drift));
        x.meter(0, 0, -3);
        x.meter(0, 0, 3);
        x.pass(240);
        Check.due("read by drift -3", x.read(0), 20 + 40 - 30);
        Check.due("read by drift 3", x.read(1), 20 + 40 + 30);
    }

    @Holds(promise = 15, sentence = {"Sets a meter up.", "Returns its number.", "Meters are numbered from 0, at most 8",
        "Throws `IllegalStateException` if there are 8"})
    private static void meterTakes8AndRefusesTheNinth() {
        NightValley x = new NightValley();
        for (int meter = 0; meter < 8; meter++) {
            Check.due("meter " + meter, x.meter(meter, meter, 0), meter);
        }
        Check.refused("a ninth meter", Check.STATE, () -> x.meter(0, 0, 0));
        Check.refused("a ninth meter at 63", Check.STATE, () -> x.meter(63, 50, 3));
        for (int meter = 0; meter < 8; meter++) {
            Check.due("read(" + meter + ")", x.read(meter), 20 + meter);
        }
    }

    @Holds(promise = 15, sentence = "and a told zero, 0 at first")
    private static void meterHasTheToldZero0AtFirst() {
        NightValley x = withMeter(7, 0);
        x.read(0);
        Check.due("corrected by nothing told", x.ofReading(0, 0, 2), 7);
        Check.due("told zero", x.tell(0, 1), 0);
    }

    // ---- promise 16: read

    @Holds(promise = 16, sentence = {"`meter`: its number", "Throws `IndexOutOfBoundsException` if there is no such meter"})
    private static void readTakesTheMetersThereAre() {
        NightValley x = new NightValley();
        Edges.refusesIndex("read without a meter", 0, x::read);
        x.meter(0, 1, 0);
        Edges.refusesIndex("read of 1 meter", 1, x::read);
        addMeters(x, 6);
        x.meter(0, 8, 0);
        Edges.refusesIndex("read of 8 meters", 8, x::read);
        Check.due("read(0)", x.read(0), 21);
        Check.due("read(7)", x.read(7), 28);
    }

    @Holds(promise = 16, sentence = {"Reads a meter.", "Returns the value.",
        "whose value is the GLOW of its PLACE now, and the moon, and 20, and its true zero, and its drift times the day, together"})
    private static void readAddsAllParts() {
        NightValley x = Edges.withLamp(9, 1000, NightValley.COLD, 5);
        x.meter(10, -7, -2);
        Check.due("on day 0", x.read(0), 1000 + 0 + 20 - 7);
        x.tell(0, 100);
        Check.due("the told zero does not matter", x.read(0), 1000 + 0 + 20 - 7);
        x.pass(48);
        x.air(NightValley.DUSTY);
        Check.due("on day 2", x.read(0), 2000 + 8 + 20 - 7 - 4);
        x.pass(12);
        Check.due("at noon", x.read(0), 2000 + 0 + 20 - 7 - 4);
        x.outage(0, 1);
        Check.due("in an outage", x.read(0), 20 - 7 - 4);
    }

    @Holds(promise = 16, sentence = "the day is the time divided by 24, the HOUR the remainder of that")
    private static void readDriftsAtTheEndOfTheDay() {
        NightValley x = withMeter(0, 3);
        x.pass(23);
        Check.due("HOUR 23 of day 0", x.read(0), 20);
        x.pass(1);
        Check.due("HOUR 0 of day 1", x.read(0), 20 + 4 + 3);
        x.pass(23);
        Check.due("HOUR 23 of day 1", x.read(0), 20 + 4 + 3);
        x.pass(1);
        Check.due("HOUR 0 of day 2", x.read(0), 20 + 8 + 6);
        Edges.passTo(x, 20000);
        Check.due("HOUR 8 of day 833", x.read(0), 20 + 3 * 833);
    }

    @Holds(promise = {16, 28}, sentence = "The moon is 0, if the HOUR is from 6 to 17")
    private static void readHasNoMoonFrom6To17() {
        NightValley x = withMeter(0, 0);
        Edges.passTo(x, 15 * 24);
        for (int hour = 0; hour < 24; hour++) {
            int moon = hour >= 6 && hour <= 17 ? 0 : 60;
            Check.due("at HOUR " + hour, x.read(0), 20 + moon);
            Check.due("corrected at HOUR " + hour, x.ofReading(0, Math.min(hour, 9), 2), 0);
            x.pass(1);
        }
    }

    @Holds(promise = {16, 28},
        sentence = "otherwise 4 times (15 less the number by which 15 and the remainder of the day by 30 are apart)")
    private static void readHasAMoonByTheDayOf30() {
        NightValley x = withMeter(0, 0);
        for (int day = 0; day <= 61; day++) {
            int of30 = day % 30;
            int moon = of30 <= 15 ? 4 * of30 : 4 * (30 - of30);
            Check.due("on day " + day, x.read(0), 20 + moon);
            Check.due("corrected on day " + day, x.ofReading(0, Math.min(day, 9), 2), 0);
            x.pass(24);
        }
    }

    @Holds(promise = {16, 28}, sentence = "the remainder of the day by 30")
    private static void readHasNoMoonOnDay30AndMostOnDay15() {
        int[][] moons = {{0, 0}, {1, 4}, {14, 56}, {15, 60}, {16, 56}, {29, 4}, {30, 0}, {31, 4}, {45, 60}, {810, 0}, {825, 60}};
        NightValley x = withMeter(0, 0);
        for (int[] moon : moons) {
            Edges.passTo(x, 24 * moon[0]);
            Check.due("on day " + moon[0], x.read(0), 20 + moon[1]);
        }
    }

    @Holds(promise = {16, 28}, sentence = "A meter keeps its latest 10 READINGS")
    private static void readKeepsTheLatest10() {
        NightValley x = withMeter(0, 0);
        x.meter(0, 0, 0);
        x.read(1);
        for (int time = 0; time < 10; time++) {
            x.read(0);
            x.pass(1);
        }
        Check.due("the oldest of 10", x.ofReading(0, 0, 0), 0);
        Check.due("the latest of 10", x.ofReading(0, 9, 0), 9);
        x.read(0);
        Check.due("the oldest, as an eleventh was read", x.ofReading(0, 0, 0), 1);
        Check.due("the latest, as an eleventh was read", x.ofReading(0, 9, 0), 10);
        for (int i = 0; i < 15; i++) {
            x.read(0);
        }
        for (int reading = 0; reading < 10; reading++) {
            Check.due("ten of one time, " + reading, x.ofReading(0, reading, 0), 10);
        }
        Edges.refusesIndex("READINGS of meter 0", 10, reading -> x.ofReading(0, reading, 0));
        Edges.refusesIndex("READINGS of meter 1", 1, reading -> x.ofReading(1, reading, 0));
    }

    // ---- promise 17: tell

    @Holds(promise = 17, sentence = {"`meter`: its number", "Throws `IndexOutOfBoundsException` if there is no such meter"})
    private static void tellTakesTheMetersThereAre() {
        NightValley x = new NightValley();
        Edges.refusesIndex("tell without a meter", 0, meter -> x.tell(meter, 5));
        addMeters(x, 8);
        Edges.refusesIndex("tell of 8 meters", 8, meter -> x.tell(meter, 5));
        Check.due("tell(0, 1)", x.tell(0, 1), 0);
        Check.due("tell(7, 2)", x.tell(7, 2), 0);
        Check.due("tell(6, 0)", x.tell(6, 0), 0);
        Check.due("tell(0, 0)", x.tell(0, 0), 1);
        Check.due("tell(7, 0)", x.tell(7, 0), 2);
    }

    @Holds(promise = 17, sentence = {"`zero`: -5000 to 5000: its told zero",
        "Throws `IllegalArgumentException` if zero is out of range"})
    private static void tellTakesZerosFromMinus5000To5000() {
        NightValley x = withMeter(0, 0);
        x.read(0);
        Edges.refusesArgument("tell", -5000, 5000, zero -> x.tell(0, zero));
        Check.due("tell(0, -5000)", x.tell(0, -5000), 0);
        Check.due("corrected by -5000", x.ofReading(0, 0, 2), 5000);
        Check.due("tell(0, 5000)", x.tell(0, 5000), -5000);
        Check.due("corrected by 5000", x.ofReading(0, 0, 2), -5000);
    }

    @Holds(promise = 17, sentence = {"Tells the zero of a meter.", "Returns what it was."})
    private static void tellAnswersWhatItWas() {
        NightValley x = withMeter(33, 0);
        int was = 0;
        for (int zero : new int[] {3, 3, -4, 0, 5}) {
            Check.due("tell(0, " + zero + ")", x.tell(0, zero), was);
            was = zero;
        }
    }

    // ---- promise 28: ofReading

    @Holds(promise = 28, sentence = {"`meter`: its number",
        "Throws `IndexOutOfBoundsException` if there is no such meter or READING"})
    private static void ofReadingTakesTheMetersThereAre() {
        NightValley x = new NightValley();
        Edges.refusesIndex("ofReading without a meter", 0, meter -> x.ofReading(meter, 0, 0));
        addMeters(x, 8);
        for (int meter = 0; meter < 8; meter++) {
            x.read(meter);
        }
        Edges.refusesIndex("ofReading of 8 meters", 8, meter -> x.ofReading(meter, 0, 0));
        Check.due("ofReading(0, 0, 1)", x.ofReading(0, 0, 1), 20);
        Check.due("ofReading(7, 0, 1)", x.ofReading(7, 0, 1), 20);
    }

    @Holds(promise = 28, sentence = {"`reading`: its number, 0 for the oldest one that is kept",
        "numbers of READINGS are from 0 for the oldest one that is kept"})
    private static void ofReadingTakesTheReadingsThereAre() {
        NightValley x = withMeter(0, 0);
        for (int count = 0; count <= 12; count++) {
            Edges.refusesIndex("ofReading of " + count, Math.min(count, 10), reading -> x.ofReading(0, reading, 0));
            for (int reading = 0; reading < Math.min(count, 10); reading++) {
                Check.due("time of READING " + reading, x.ofReading(0, reading, 0), Math.max(count - 10, 0) + reading);
            }
            x.read(0);
            x.pass(1);
        }
    }

    @Holds(promise = 28, sentence = {"Tells something of a READING of a meter.", "Returns the number.",
        "`what`: 0 its time, 1 its value, 2 its corrected value", "Throws `IllegalArgumentException` if what is out of range"})
    private static void ofReadingTakesWhat0To2() {
        NightValley x = withMeter(5, 0);
        x.pass(49);
        x.read(0);
        x.tell(0, 2);
        Edges.refusesArgument("ofReading", 0, 2, what -> x.ofReading(0, 0, what));
        Check.due("its time", x.ofReading(0, 0, 0), 49);
        Check.due("its value", x.ofReading(0, 0, 1), 8 + 20 + 5);
        Check.due("its corrected value", x.ofReading(0, 0, 2), 3);
    }

    @Holds(promise = 28, sentence =
        "The corrected value of a READING is its value less the moon of its time, less 20, less the told zero as it is now.")
    private static void ofReadingCorrectsByItsTimeAndTheZeroNow() {
        NightValley x = withMeter(4, 1);
        Edges.passTo(x, 15 * 24 + 5);
        x.read(0);
        x.pass(1);
        x.read(0);
        x.pass(400);
        for (int zero : new int[] {0, 19, -100}) {
            x.tell(0, zero);
            Check.due("of HOUR 5 by " + zero, x.ofReading(0, 0, 2), 4 + 15 - zero);
            Check.due("of HOUR 6 by " + zero, x.ofReading(0, 1, 2), 4 + 15 - zero);
            Check.due("the value of HOUR 5", x.ofReading(0, 0, 1), 60 + 20 + 4 + 15);
            Check.due("the value of HOUR 6", x.ofReading(0, 1, 1), 20 + 4 + 15);
        }
    }

    // ---- promise 29: trend

    @Holds(promise = 29, sentence = {"`meter`: its number", "Throws `IndexOutOfBoundsException` if there is no such meter"})
    private static void trendTakesTheMetersThereAre() {
        NightValley x = new NightValley();
        Edges.refusesIndex("trend without a meter", 0, x::trend);
        addMeters(x, 7);
        x.meter(0, 0, 3);
        for (int day = 0; day < 2; day++) {
            x.read(0);
            x.read(7);
            x.pass(24);
        }
        Edges.refusesIndex("trend of 8 meters", 8, x::trend);
        Check.due("trend(0)", x.trend(0), 0);
        Check.due("trend(7)", x.trend(7), 3000 / 24);
    }

    @Holds(promise = 29, sentence = "Throws `IllegalStateException` if its READINGS have not two unlike times")
    private static void trendNeedsTwoUnlikeTimes() {
        NightValley x = withMeter(0, 0);
        Check.refused("without a READING", Check.STATE, () -> x.trend(0));
        x.pass(7);
        for (int count = 1; count <= 3; count++) {
            x.read(0);
            Check.refused(count + " of one time", Check.STATE, () -> x.trend(0));
        }
        x.pass(1);
        Check.refused("now does not matter", Check.STATE, () -> x.trend(0));
        x.read(0);
        Check.due("the first unlike one", x.trend(0), 0);
    }

    @Holds(promise = 29, sentence = {"The trend of a meter is, over its READINGS, n of them", "A meter keeps its latest 10 READINGS"})
    private static void trendIsOverTheLatest10() {
        NightValley x = Edges.withLamp(0, 10, 0, 0);
        x.meter(0, 0, 0);
        x.outage(0, 1);
        x.read(0);
        x.pass(1);
        for (int count = 1; count <= 9; count++) {
            x.read(0);
            Check.due("one of time 0, " + count + " of time 1", x.trend(0), 10000);
        }
        x.read(0);
        Check.refused("ten of time 1", Check.STATE, () -> x.trend(0));
        x.pass(1);
        x.read(0);
        Check.due("one of time 2", x.trend(0), 0);
    }

    @Holds(promise = 29, sentence = "Where something is divided, it is rounded towards 0; products are made ahead of being divided.")
    private static void trendIsRoundedTowards0() {
        int[][] trends = {{1, 41}, {-1, -41}, {2, 83}, {-2, -83}, {3, 125}, {-3, -125}, {0, 0}};
        for (int[] trend : trends) {
            NightValley x = withMeter(0, trend[0]);
            x.read(0);
            x.pass(24);
            x.read(0);
            Check.due("by a drift of " + trend[0], x.trend(0), trend[1]);
        }
    }

    @Holds(promise = 29, sentence = {"Returns the trend of a meter.", "Returns the trend.", "1000 times (n times the sum of t times v, less the sum of t times the "
        + "sum of v), divided by (n times the sum of t times t, less the sum of t times itself)"})
    private static void trendOfThreeReadings() {
        NightValley x = withMeter(-9, 2);
        x.pass(10);
        x.read(0);
        x.pass(20);
        x.read(0);
        x.pass(70);
        x.read(0);
        // times 10, 30 and 100; corrected values -9, -7 and -1
        // 1000 * (3 * (-90 - 210 - 100) - 140 * -17) / (3 * (100 + 900 + 10000) - 140 * 140)
        Check.due("upwards", x.trend(0), 1000 * 1180 / 13400);
        x.tell(0, 500);
        Check.due("the told zero as it is now", x.trend(0), 88);
        Check.due("trend(0)", x.trend(0), 88);
    }

    @Holds(promise = 29, sentence = "with their times t and corrected values v")
    private static void trendIsOfCorrectedValues() {
        NightValley x = withMeter(0, 0);
        x.read(0);
        Edges.passTo(x, 15 * 24);
        x.read(0);
        Check.due("by the moon alone", x.trend(0), 0);
    }

    @Holds(promise = 29, sentence = "1000 times (n times the sum of t times v, less the sum of t times the sum of v)")
    private static void trendOfTheGreatestNumbers() {
        NightValley x = new NightValley();
        for (int village = 0; village < 4; village++) {
            x.village(1, 0);
            for (int lamp = 0; lamp < 10; lamp++) {
                x.lamp(village, 0, 10000, NightValley.COLD, 0);
            }
        }
        // with hours from 18 to 6 and a curfew from 18 to 5 no lamp BURNS, so none grows old
        x.law(0, 18, NightValley.COLD, 0);
        x.air(NightValley.CLOUDY);
        x.meter(0, 0, 0);
        Edges.passTo(x, 19991);
        x.read(0);
        x.pass(1);
        x.law(0, 24, NightValley.COLD, 0);
        for (int i = 0; i < 9; i++) {
            x.read(0);
        }
        Check.due("the greatest corrected value", x.ofReading(0, 9, 2), 8000000);
        Check.due("the greatest trend", x.trend(0), 8000000000L);
    }
}
