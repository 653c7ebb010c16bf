/** "If several apply, the one that is named first in the throws clause is thrown", for each promise that names several. */
final class OrderEdgesTest {
    private static final String FIRST = "If several apply, the one that is named first in the throws clause is thrown.";

    private static final int[] NO_SHIELDS = {-1, 11, Integer.MIN_VALUE, Integer.MAX_VALUE};
    private static final int[] NO_COLOURS = {-1, 3};
    private static final int[] NO_PLACES = {-1, 64, Integer.MIN_VALUE, Integer.MAX_VALUE};

    public static void main(String[] args) {
        Edges.run(OrderEdgesTest.class);
    }

    /** 5 villages, 40 lamps (10 of each but the last), 8 meters with a READING, 10 satellites, the lamp 0 BOUND. */
    private static NightValley full() {
        NightValley x = new NightValley();
        for (int village = 0; village < 5; village++) {
            x.village(10, 100);
            Edges.addLamps(x, village, village < 4 ? 10 : 0);
        }
        for (int meter = 0; meter < 8; meter++) {
            x.meter(0, 0, 0);
            x.read(meter);
        }
        for (int satellite = 0; satellite < 10; satellite++) {
            x.satellite(1, 0);
        }
        x.vote(0, 3, 3, 10, 0);
        return x;
    }

    @Holds(promise = 4, sentence = FIRST)
    private static void law() {
        NightValley x = new NightValley();
        for (int zone : new int[] {-1, 4}) {
            Check.refused("law, zone and curfew 17", Check.INDEX, () -> x.law(zone, 17, 0, 0));
            Check.refused("law, zone and curfew 25", Check.INDEX, () -> x.law(zone, 25, 0, 0));
            Check.refused("law, zone and colour -1", Check.INDEX, () -> x.law(zone, 18, -1, 0));
            Check.refused("law, zone and colour 3", Check.INDEX, () -> x.law(zone, 18, 3, 0));
            Check.refused("law, zone and shield -1", Check.INDEX, () -> x.law(zone, 18, 0, -1));
            Check.refused("law, zone and shield 11", Check.INDEX, () -> x.law(zone, 18, 0, 11));
            Check.refused("law, all", Check.INDEX, () -> x.law(zone, 0, 9, 99));
        }
    }

    @Holds(promise = 5, sentence = FIRST)
    private static void feast() {
        NightValley x = new NightValley();
        for (int zone : new int[] {-1, 4}) {
            Check.refused("feast, zone and day -1", Check.INDEX, () -> x.feast(zone, -1));
            Check.refused("feast, zone and day 1000", Check.INDEX, () -> x.feast(zone, 1000));
        }
    }

    @Holds(promise = 7, sentence = FIRST)
    private static void pass() {
        for (int time : new int[] {19600, 20000}) {
            NightValley x = new NightValley();
            Edges.passTo(x, time);
            for (int hours : new int[] {0, -1, 501, Integer.MIN_VALUE, Integer.MAX_VALUE}) {
                Check.refused("pass at " + time, Check.ARGUMENT, () -> x.pass(hours));
            }
            Check.refused("pass(500) at " + time, Check.STATE, () -> x.pass(500));
        }
    }

    @Holds(promise = 8, sentence = FIRST)
    private static void village() {
        NightValley x = full();
        for (int households : new int[] {0, 501}) {
            Check.refused("a sixth, households " + households, Check.ARGUMENT, () -> x.village(households, 0));
        }
        for (int coins : new int[] {-1, 10001}) {
            Check.refused("a sixth, coins " + coins, Check.ARGUMENT, () -> x.village(1, coins));
        }
        Check.refused("a sixth", Check.STATE, () -> x.village(1, 0));
    }

    @Holds(promise = 9, sentence = FIRST)
    private static void lampOfNoVillageOrPlace() {
        NightValley x = full();
        for (int[] bad : new int[][] {{5, 0}, {-1, 0}, {4, 64}, {4, -1}, {0, 64}, {0, -1}, {5, 64}}) {
            Check.refused("a 41st, by village or place", Check.INDEX, () -> x.lamp(bad[0], bad[1], 1, 0, 0));
            Check.refused("and by flux 0", Check.INDEX, () -> x.lamp(bad[0], bad[1], 0, 0, 0));
            Check.refused("and by flux 10001", Check.INDEX, () -> x.lamp(bad[0], bad[1], 10001, 0, 0));
            Check.refused("and by colour", Check.INDEX, () -> x.lamp(bad[0], bad[1], 1, 3, 0));
            Check.refused("and by shield", Check.INDEX, () -> x.lamp(bad[0], bad[1], 1, 0, 11));
        }
        NightValley few = Edges.withVillage(1, 0);
        Check.refused("village and flux", Check.INDEX, () -> few.lamp(1, 0, 0, 0, 0));
        Check.refused("place and colour", Check.INDEX, () -> few.lamp(0, 64, 1, -1, 0));
        Check.refused("place and shield", Check.INDEX, () -> few.lamp(0, -1, 1, 0, -1));
    }

    @Holds(promise = 9, sentence = FIRST)
    private static void lampBeyondTheMost() {
        NightValley ten = Edges.withVillage(1, 0);
        ten.village(1, 0);
        Edges.addLamps(ten, 0, 10);
        for (NightValley x : new NightValley[] {ten, full()}) {
            for (int flux : new int[] {0, 10001}) {
                Check.refused("one too many, flux " + flux, Check.ARGUMENT, () -> x.lamp(0, 0, flux, 0, 0));
            }
            for (int colour : NO_COLOURS) {
                Check.refused("one too many, colour " + colour, Check.ARGUMENT, () -> x.lamp(0, 0, 1, colour, 0));
            }
            for (int shield : NO_SHIELDS) {
                Check.refused("one too many, shield " + shield, Check.ARGUMENT, () -> x.lamp(0, 0, 1, 0, shield));
            }
            Check.refused("one too many", Check.STATE, () -> x.lamp(0, 0, 1, 0, 0));
        }
        NightValley x = full();
        Check.refused("a 41st of a village without lamps, flux 0", Check.ARGUMENT, () -> x.lamp(4, 0, 0, 0, 0));
        Check.refused("a 41st of a village without lamps", Check.STATE, () -> x.lamp(4, 0, 1, 0, 0));
        for (int place : NO_PLACES) {
            Check.refused("an eleventh, place " + place, Check.INDEX, () -> ten.lamp(0, place, 1, 0, 0));
        }
    }

    @Holds(promise = 10, sentence = FIRST)
    private static void hours() {
        NightValley x = full();
        for (int lamp : new int[] {-1, 40}) {
            Check.refused("hours, lamp and from", Check.INDEX, () -> x.hours(lamp, 24, 0));
            Check.refused("hours, lamp and to", Check.INDEX, () -> x.hours(lamp, 0, -1));
        }
        for (int hour : new int[] {-1, 24}) {
            Check.refused("hours of a BOUND lamp, from " + hour, Check.ARGUMENT, () -> x.hours(0, hour, 0));
            Check.refused("hours of a BOUND lamp, to " + hour, Check.ARGUMENT, () -> x.hours(0, 0, hour));
        }
        Check.refused("hours of a BOUND lamp", Check.STATE, () -> x.hours(0, 0, 0));
    }

    @Holds(promise = 12, sentence = FIRST)
    private static void outage() {
        NightValley x = full();
        for (int village : new int[] {-1, 5}) {
            Check.refused("outage, village and -1 hours", Check.INDEX, () -> x.outage(village, -1));
            Check.refused("outage, village and 501 hours", Check.INDEX, () -> x.outage(village, 501));
        }
    }

    @Holds(promise = 13, sentence = FIRST)
    private static void voteOnNoLamp() {
        NightValley x = full();
        for (int lamp : new int[] {-1, 40, Integer.MIN_VALUE, Integer.MAX_VALUE}) {
            Check.refused("vote, lamp and shield 11", Check.INDEX, () -> x.vote(lamp, 11, 0, 10, 0));
            Check.refused("vote, lamp and shield -1", Check.INDEX, () -> x.vote(lamp, -1, 0, 10, 0));
            Check.refused("vote, lamp and dim 11", Check.INDEX, () -> x.vote(lamp, 1, 11, 10, 0));
            Check.refused("vote, lamp and yeses 501", Check.INDEX, () -> x.vote(lamp, 1, 0, 501, 0));
            Check.refused("vote, lamp and noes -1", Check.INDEX, () -> x.vote(lamp, 1, 0, 10, -1));
            Check.refused("vote, lamp and nothing higher", Check.INDEX, () -> x.vote(lamp, 0, 0, 10, 0));
        }
    }

    @Holds(promise = 13, sentence = FIRST)
    private static void voteOnABoundLamp() {
        NightValley x = full();
        int[][] votes = {{11, 3, 10, 0}, {-1, 4, 10, 0}, {3, 11, 10, 0}, {4, -1, 10, 0}, {4, 3, 501, 0}, {4, 3, -1, 0},
            {4, 3, 10, -1}, {4, 3, 0, 501}, {2, 4, 10, 0}, {4, 2, 10, 0}, {4, 3, 10, 1}, {4, 3, 5, 6}, {3, 3, 10, 1},
            {3, 3, 11, 0}, {3, 3, -1, 0}, {4, 3, -1, 9}, {4, 3, 9, -1}, {4, 3, 501, -500}, {3, 3, -1, 9}};
        for (int[] vote : votes) {
            Check.refused("vote on a BOUND lamp", Check.ARGUMENT, () -> x.vote(0, vote[0], vote[1], vote[2], vote[3]));
        }
        Check.refused("BOUND alone", Check.STATE, () -> x.vote(0, 4, 3, 10, 0));
    }

    @Holds(promise = 13, sentence = FIRST)
    private static void voteOnWhatTheLampHas() {
        NightValley x = full();
        int[][] votes = {{0, 0, 10, 1}, {0, 0, 11, 0}, {0, 0, 0, 11}, {0, 0, -1, 0}, {0, 0, 0, -1}, {0, 0, 501, 0}, {0, 0, 0, 501},
            {0, 0, -1, 9}, {0, 0, 9, -1}};
        for (int[] vote : votes) {
            Check.refused("vote on what the lamp has", Check.ARGUMENT, () -> x.vote(1, vote[0], vote[1], vote[2], vote[3]));
        }
        Check.refused("what the lamp has alone", Check.STATE, () -> x.vote(1, 0, 0, 10, 0));
    }

    @Holds(promise = 15, sentence = FIRST)
    private static void meter() {
        for (NightValley x : new NightValley[] {new NightValley(), full()}) {
            for (int place : NO_PLACES) {
                Check.refused("meter, place and zero", Check.INDEX, () -> x.meter(place, 51, 0));
                Check.refused("meter, place and drift", Check.INDEX, () -> x.meter(place, 0, -4));
                Check.refused("meter, place", Check.INDEX, () -> x.meter(place, 0, 0));
            }
        }
        NightValley x = full();
        for (int zero : new int[] {-51, 51}) {
            Check.refused("a ninth meter, zero " + zero, Check.ARGUMENT, () -> x.meter(0, zero, 0));
        }
        for (int drift : new int[] {-4, 4}) {
            Check.refused("a ninth meter, drift " + drift, Check.ARGUMENT, () -> x.meter(0, 0, drift));
        }
        Check.refused("a ninth meter", Check.STATE, () -> x.meter(0, 0, 0));
    }

    @Holds(promise = 17, sentence = FIRST)
    private static void tell() {
        NightValley x = full();
        for (int meter : new int[] {-1, 8}) {
            Check.refused("tell, meter and zero -5001", Check.INDEX, () -> x.tell(meter, -5001));
            Check.refused("tell, meter and zero 5001", Check.INDEX, () -> x.tell(meter, 5001));
        }
    }

    @Holds(promise = 19, sentence = FIRST)
    private static void satellite() {
        NightValley x = full();
        for (int period : new int[] {0, -1, 101}) {
            Check.refused("an eleventh, period " + period, Check.ARGUMENT, () -> x.satellite(period, 0));
        }
        for (int phase : new int[] {-1, 5}) {
            Check.refused("an eleventh, phase " + phase, Check.ARGUMENT, () -> x.satellite(5, phase));
        }
        Check.refused("an eleventh", Check.STATE, () -> x.satellite(5, 4));
    }

    @Holds(promise = 21, sentence = FIRST)
    private static void ofLamp() {
        NightValley x = full();
        for (int lamp : new int[] {-1, 40}) {
            Check.refused("ofLamp, lamp and what -1", Check.INDEX, () -> x.ofLamp(lamp, -1));
            Check.refused("ofLamp, lamp and what 7", Check.INDEX, () -> x.ofLamp(lamp, 7));
        }
    }

    @Holds(promise = 22, sentence = FIRST)
    private static void ofVillage() {
        NightValley x = full();
        for (int village : new int[] {-1, 5}) {
            Check.refused("ofVillage, village and what -1", Check.INDEX, () -> x.ofVillage(village, -1));
            Check.refused("ofVillage, village and what 4", Check.INDEX, () -> x.ofVillage(village, 4));
        }
    }

    @Holds(promise = 25, sentence = FIRST)
    private static void glowFrom() {
        NightValley x = full();
        for (int place : NO_PLACES) {
            Check.refused("glowFrom, place and direction -1", Check.INDEX, () -> x.glowFrom(place, -1));
            Check.refused("glowFrom, place and direction 5", Check.INDEX, () -> x.glowFrom(place, 5));
        }
    }

    @Holds(promise = 27, sentence = FIRST)
    private static void way() {
        NightValley x = full();
        for (int place : NO_PLACES) {
            for (int bound : new int[] {-1, 100001}) {
                Check.refused("way, from and bound", Check.INDEX, () -> x.way(place, 0, bound));
                Check.refused("way, to and bound", Check.INDEX, () -> x.way(0, place, bound));
            }
        }
    }

    @Holds(promise = 28, sentence = FIRST)
    private static void ofReading() {
        NightValley x = full();
        for (int what : new int[] {-1, 3}) {
            Check.refused("ofReading, meter -1 and what", Check.INDEX, () -> x.ofReading(-1, 0, what));
            Check.refused("ofReading, meter 8 and what", Check.INDEX, () -> x.ofReading(8, 0, what));
            Check.refused("ofReading, READING -1 and what", Check.INDEX, () -> x.ofReading(0, -1, what));
            Check.refused("ofReading, READING 1 and what", Check.INDEX, () -> x.ofReading(0, 1, what));
        }
    }

    @Holds(promise = 29, sentence = FIRST)
    private static void trend() {
        NightValley x = full();
        for (int meter : new int[] {-1, 8}) {
            Check.refused("trend, no meter and so no READINGS", Check.INDEX, () -> x.trend(meter));
        }
        Check.refused("trend of one READING", Check.STATE, () -> x.trend(0));
    }

    @Holds(promise = 33, sentence = FIRST)
    private static void plan() {
        NightValley x = full();
        for (int coins : new int[] {-1, 10001}) {
            Check.refused("plan, village -1 and coins", Check.INDEX, () -> x.plan(-1, 0, coins));
            Check.refused("plan, village 5 and coins", Check.INDEX, () -> x.plan(5, 0, coins));
            for (int place : NO_PLACES) {
                Check.refused("plan, place and coins", Check.INDEX, () -> x.plan(0, place, coins));
            }
        }
    }
}
