/** Promises 26 and 27: ground, way. */
final class GroundTest {
    public static void main(String[] args) {
        ground();
        groundOfOthers();
        groundOnly();
        wayInTheDark();
        wayRound();
        wayBounds();
        refuses();
        Check.end();
    }

    private static void ground() {
        NightValley x = new NightValley();
        x.village(1, 100);
        x.lamp(0, 0, 1000, NightValley.COLD, 0);
        x.lamp(0, 7, 777, NightValley.AMBER, 10);
        Check.due("ground(0)", x.ground(0), 1000 + 777 / 50);
        Check.due("ground(1)", x.ground(1), 500 + 777 / 37);
        Check.due("ground(63)", x.ground(63), 1000 / 99 + 777 / 50);
        x.hours(1, 12, 13);
        Check.due("of those that BURN", x.ground(0), 1000);
        x.vote(0, 0, 1, 1, 0);
        Check.due("by its LIGHT", x.ground(0), 900);
    }

    private static void groundOfOthers() {
        NightValley x = new NightValley();
        x.village(1, 0);
        x.lamp(0, 43, 1000, NightValley.AMBER, 0);
        Check.due("1 right, 1 down", x.ground(52), 1000 / 3);
        Check.due("2 left, 2 up", x.ground(25), 1000 / 9);
        Check.due("3 left, 5 up", x.ground(0), 1000 / 35);
        Check.due("4 right, 2 down", x.ground(63), 1000 / 21);
    }

    private static void groundOnly() {
        NightValley x = new NightValley();
        x.village(1, 100);
        x.lamp(0, 0, 1000, NightValley.COLD, 0);
        x.ridge(1, true);
        Check.due("no ridge", x.ground(2), 200);
        x.air(NightValley.CLOUDY);
        Check.due("no air", x.ground(2), 200);
        x.vote(0, 10, 0, 1, 0);
        Check.due("no SHIELD", x.ground(2), 200);
    }

    private static void wayInTheDark() {
        NightValley x = new NightValley();
        for (int from = 0; from < 64; from += 9) {
            for (int to = 0; to < 64; to += 5) {
                int steps = Math.abs(from % 8 - to % 8) + Math.abs(from / 8 - to / 8);
                Check.due("way(" + from + ", " + to + ")", x.way(from, to, 0), steps);
            }
        }
        Check.due("not across the edge", x.way(7, 8, 0), 8);
    }

    /** Lamps of a narrow light stand as a wall in column 3, with one gap. */
    private static void wayRound() {
        NightValley x = new NightValley();
        x.village(1, 0);
        for (int y = 0; y < 7; y++) {
            x.lamp(0, 8 * y + 3, 1, 0, 0);
        }
        Check.due("round by row 7", x.way(0, 7, 0), 7 + 14);
        x.lamp(0, 59, 1, 0, 0);
        Check.due("no way", x.way(0, 7, 0), NightValley.NONE);
        Check.due("a way within one side", x.way(0, 58, 0), 9);
        Check.due("into the wall", x.way(0, 3, 0), NightValley.NONE);
        Check.due("out of the wall", x.way(3, 0, 0), NightValley.NONE);
        Check.due("by the bound 1", x.way(0, 7, 1), 7);
        x.pass(12);
        Check.due("as no lamp BURNS", x.way(0, 7, 0), 7);
    }

    private static void wayBounds() {
        NightValley x = new NightValley();
        x.village(1, 0);
        x.lamp(0, 27, 10000, 0, 10);
        Check.due("its ground above the bound", x.way(27, 27, 9999), NightValley.NONE);
        Check.due("its ground at the bound", x.way(27, 27, 10000), 0);
        Check.due("to it above the bound", x.way(26, 27, 9999), NightValley.NONE);
        Check.due("to it at the bound", x.way(26, 27, 10000), 1);
        Check.due("round it", x.way(26, 28, 5000), 4);
        Check.due("farther round it", x.way(26, 28, 4999), NightValley.NONE);
        Check.due("asked again", x.way(27, 27, 10000), 0);
        NightValley corners = new NightValley();
        corners.village(1, 0);
        corners.lamp(0, 0, 1, 0, 0);
        corners.lamp(0, 63, 1, 0, 0);
        Check.due("a lamp at 0", corners.way(0, 0, 0), NightValley.NONE);
        Check.due("a lamp at 63", corners.way(63, 63, 0), NightValley.NONE);
        Check.due("between them", corners.way(1, 62, 0), 12);
    }

    private static void refuses() {
        NightValley x = new NightValley();
        Check.refused("ground(64)", Check.INDEX, () -> x.ground(64));
        Check.refused("ground(-1)", Check.INDEX, () -> x.ground(-1));
        Check.refused("way(64, 0, -1)", Check.INDEX, () -> x.way(64, 0, -1));
        Check.refused("way(-1, 0, 0)", Check.INDEX, () -> x.way(-1, 0, 0));
        Check.refused("way(0, 64, 100001)", Check.INDEX, () -> x.way(0, 64, 100001));
        Check.refused("way(0, -1, 0)", Check.INDEX, () -> x.way(0, -1, 0));
        Check.refused("way(0, 0, -1)", Check.ARGUMENT, () -> x.way(0, 0, -1));
        Check.refused("way(0, 0, 100001)", Check.ARGUMENT, () -> x.way(0, 0, 100001));
        Check.due("way(0, 63, 100000)", x.way(0, 63, 100000), 14);
    }
}
