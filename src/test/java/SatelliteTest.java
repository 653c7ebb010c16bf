/** Promises 19 and 31: satellite, trails. */
final class SatelliteTest {
    public static void main(String[] args) {
        satellite();
        hoursOfTrails();
        trails();
        refuses();
        Check.end();
    }

    private static void satellite() {
        NightValley x = new NightValley();
        Check.refused("period 0", Check.ARGUMENT, () -> x.satellite(0, 0));
        Check.refused("period -1", Check.ARGUMENT, () -> x.satellite(-1, 0));
        Check.refused("period 101", Check.ARGUMENT, () -> x.satellite(101, 0));
        Check.refused("phase -1", Check.ARGUMENT, () -> x.satellite(5, -1));
        Check.refused("phase 5 of 5", Check.ARGUMENT, () -> x.satellite(5, 5));
        Check.refused("phase 1 of 1", Check.ARGUMENT, () -> x.satellite(1, 1));
        Check.due("none yet", x.trails(0, 500), 0);
        for (int i = 0; i < 10; i++) {
            Check.due("satellite", x.satellite(i == 0 ? 1 : 100, i == 0 ? 0 : 90 + i), i);
        }
        Check.refused("an eleventh", Check.STATE, () -> x.satellite(1, 0));
        Check.refused("an eleventh, out of range", Check.ARGUMENT, () -> x.satellite(1, 1));
        Check.due("as many as there were", x.trails(0, 1), 1);
    }

    private static void hoursOfTrails() {
        NightValley x = new NightValley();
        x.satellite(1, 0);
        for (int time = 0; time < 48; time++) {
            int hour = time % 24;
            Check.due("trails at HOUR " + hour, x.trails(time, 1), hour >= 18 || hour < 6 ? 1 : 0);
        }
        Check.due("a day", x.trails(100, 24), 12);
        Check.due("the most hours", x.trails(0, 500), 20 * 12 + 6 + 2);
        Check.due("the last time", x.trails(20000, 500), 20 * 12 + 6 + 4);
    }

    private static void trails() {
        NightValley x = new NightValley();
        x.satellite(7, 3);
        Check.due("3", x.trails(0, 6), 1);
        Check.due("3, not 10", x.trails(3, 8), 1);
        Check.due("17 is day", x.trails(4, 14), 0);
        Check.due("24", x.trails(4, 21), 1);
        Check.due("not 24", x.trails(4, 20), 0);
        x.satellite(7, 3);
        Check.due("two at one time", x.trails(4, 21), 2);
        x.satellite(24, 18);
        Check.due("18", x.trails(18, 1), 1);
        x.pass(300);
        Check.due("now does not matter", x.trails(4, 21), 3);
    }

    private static void refuses() {
        NightValley x = new NightValley();
        Check.refused("from -1", Check.ARGUMENT, () -> x.trails(-1, 1));
        Check.refused("from 20001", Check.ARGUMENT, () -> x.trails(20001, 1));
        Check.refused("0 hours", Check.ARGUMENT, () -> x.trails(0, 0));
        Check.refused("501 hours", Check.ARGUMENT, () -> x.trails(0, 501));
        Check.refused("greatest ints", Check.ARGUMENT, () -> x.trails(Integer.MAX_VALUE, Integer.MAX_VALUE));
    }
}
