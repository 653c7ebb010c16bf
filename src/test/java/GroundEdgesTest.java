/** The edges of promises 26 and 27: ground, way. */
final class GroundEdgesTest {
    public static void main(String[] args) {
        Edges.run(GroundEdgesTest.class);
    }

    /** A lamp of FLUX 1 makes the ground of its own PLACE 1, and that of no other one more. */
    private static NightValley withWalls(int... places) {
        NightValley x = new NightValley();
        Edges.addVillages(x, 4);
        for (int i = 0; i < places.length; i++) {
            x.lamp(i % 4, places[i], 1, NightValley.AMBER, 0);
        }
        return x;
    }

    // ---- promise 26: ground

    @Holds(promise = 26, sentence = {"`place`: 0 to 63", "Throws `IndexOutOfBoundsException` if there is no such PLACE"})
    private static void groundTakesPlaces0And63() {
        NightValley x = Edges.withLamp(0, 9900, 0, 0);
        Edges.refusesIndex("ground", 64, x::ground);
        Check.due("ground(0)", x.ground(0), 9900);
        Check.due("ground(63)", x.ground(63), 100);
    }

    @Holds(promise = 26, sentence = {"Returns what the ground of a PLACE has now.", "Returns the number.",
        "The ground of a PLACE has, from each lamp that BURNS"})
    private static void groundIsOfNoneAndOfAll40() {
        NightValley x = new NightValley();
        Check.due("of no lamp", x.ground(0), 0);
        for (int village = 0; village < 4; village++) {
            x.village(1, 0);
            for (int lamp = 0; lamp < 10; lamp++) {
                x.lamp(village, 0, 10000, NightValley.COLD, 0);
            }
        }
        Check.due("of 40 lamps at 0", x.ground(0), 400000);
        Check.due("of 40 lamps at 63", x.ground(63), 40 * 101);
        x.outage(2, 1);
        Check.due("of 30 lamps", x.ground(0), 300000);
        x.pass(6);
        Check.due("of none that BURNS", x.ground(0), 0);
    }

    @Holds(promise = 26, sentence = "its LIGHT divided by (1 and dx times dx and dy times dy, together), all together")
    private static void groundByHowFarItIs() {
        for (int lamp : new int[] {0, 27, 63}) {
            NightValley x = Edges.withLamp(lamp, 98, 0, 0);
            for (int place = 0; place < 64; place++) {
                int dx = place % 8 - lamp % 8;
                int dy = place / 8 - lamp / 8;
                Check.due("at " + place + " by " + lamp, x.ground(place), 98 / (1 + dx * dx + dy * dy));
            }
        }
        Check.due("98 of 99", Edges.withLamp(0, 98, 0, 0).ground(63), 0);
        Check.due("99 of 99", Edges.withLamp(0, 99, 0, 0).ground(63), 1);
        NightValley two = Edges.withLamp(0, 3, 0, 0);
        Edges.addLamp(two, 0, 2, 3, 0, 0);
        Check.due("each is divided ahead of the sum", two.ground(1), 2);
    }

    @Holds(promise = 26, sentence = "shields, ridges and air do not matter")
    private static void groundIsByTheLightAlone() {
        NightValley x = Edges.withLamp(0, 101, NightValley.COLD, 10);
        for (int air = 0; air < 3; air++) {
            x.air(air);
            Check.due("in air " + air, x.ground(2), 20);
        }
        x.ridge(1, true);
        x.ridge(0, true);
        x.ridge(2, true);
        Check.due("behind a RIDGE", x.ground(2), 20);
        x.vote(0, 10, 5, 50, 0);
        Check.due("dimmed to 50", x.ground(2), 10);
    }

    // ---- promise 27: way

    @Holds(promise = 27, sentence = {"`from`: 0 to 63", "Throws `IndexOutOfBoundsException` if there is no such PLACE, of either"})
    private static void wayTakesFrom0And63() {
        NightValley x = new NightValley();
        Edges.refusesIndex("way from", 64, from -> x.way(from, 0, 0));
        Check.due("way(0, 63, 0)", x.way(0, 63, 0), 14);
        Check.due("way(0, 0, 0)", x.way(0, 0, 0), 0);
    }

    @Holds(promise = 27, sentence = {"`to`: 0 to 63", "Throws `IndexOutOfBoundsException` if there is no such PLACE, of either"})
    private static void wayTakesTo0And63() {
        NightValley x = new NightValley();
        Edges.refusesIndex("way to", 64, to -> x.way(0, to, 0));
        Check.refused("way(64, 64, 0)", Check.INDEX, () -> x.way(64, 64, 0));
        Check.refused("way(-1, -1, 0)", Check.INDEX, () -> x.way(-1, -1, 0));
        Check.due("way(63, 0, 0)", x.way(63, 0, 0), 14);
        Check.due("way(63, 63, 0)", x.way(63, 63, 0), 0);
    }

    @Holds(promise = 27, sentence = {"`bound`: 0 to 100000", "Throws `IllegalArgumentException` if bound is out of range"})
    private static void wayTakesBounds0And100000() {
        NightValley x = new NightValley();
        Edges.refusesArgument("way by bound", 0, 100000, bound -> x.way(0, 1, bound));
        Check.due("by 0", x.way(0, 1, 0), 1);
        Check.due("by 100000", x.way(0, 1, 100000), 1);
        NightValley bright = new NightValley();
        Edges.addVillages(bright, 2);
        for (int lamp = 0; lamp < 10; lamp++) {
            bright.lamp(0, 9, 10000, 0, 0);
        }
        Check.due("100000 by 99999", bright.way(9, 9, 99999), NightValley.NONE);
        Check.due("100000 by 100000", bright.way(9, 9, 100000), 0);
        bright.lamp(1, 9, 1, 0, 0);
        Check.due("100001 by 100000", bright.way(9, 9, 100000), NightValley.NONE);
    }

    @Holds(promise = 27, sentence = {"Returns the least number of steps of a way that is dark by a bound now.",
        "it is dark by a bound, if the ground of each PLACE of it, both ends with it, is at most the bound"})
    private static void wayIsDarkAtBothEndsAndBetween() {
        NightValley x = withWalls(0, 2, 7);
        Check.due("from a bright PLACE", x.way(0, 1, 0), NightValley.NONE);
        Check.due("to a bright PLACE", x.way(1, 0, 0), NightValley.NONE);
        Check.due("from a bright PLACE by 1", x.way(0, 1, 1), 1);
        Check.due("to a bright PLACE by 1", x.way(1, 0, 1), 1);
        Check.due("round a bright PLACE", x.way(1, 3, 0), 4);
        Check.due("through it by 1", x.way(1, 3, 1), 2);
        x.pass(6);
        Check.due("by day", x.way(0, 7, 0), 7);
    }

    @Holds(promise = 27, sentence = "0 to the PLACE itself, if its ground is at most the bound")
    private static void wayToThePlaceItselfIs0() {
        for (int place : new int[] {0, 7, 28, 56, 63}) {
            NightValley x = Edges.withLamp(place, 50, 0, 0);
            Check.due("its ground below the bound", x.way(place, place, 51), 0);
            Check.due("its ground at the bound", x.way(place, place, 50), 0);
            Check.due("its ground above the bound", x.way(place, place, 49), NightValley.NONE);
            Check.due("by 0", x.way(place, place, 0), NightValley.NONE);
        }
    }

    @Holds(promise = 27, sentence = "by steps to PLACES beside (x or y 1 more or less)")
    private static void wayDoesNotLeapAcrossTheEdges() {
        NightValley x = new NightValley();
        for (int from = 0; from < 64; from += 7) {
            for (int to = 0; to < 64; to += 3) {
                int steps = Math.abs(from % 8 - to % 8) + Math.abs(from / 8 - to / 8);
                Check.due("way(" + from + ", " + to + ", 0)", x.way(from, to, 0), steps);
            }
        }
        Check.due("from 7 to 8", x.way(7, 8, 0), 8);
        Check.due("from 56 to 55", x.way(56, 55, 0), 8);
        // 1 and 8 are about 0, so no step leads on but across a corner or an edge
        NightValley walled = withWalls(1, 8, 62, 55);
        Check.due("out of the corner 0", walled.way(0, 9, 0), NightValley.NONE);
        Check.due("out of the corner 63", walled.way(63, 54, 0), NightValley.NONE);
        Check.due("between the walls", walled.way(9, 54, 0), 10);
    }

    @Holds(promise = 27, sentence = "A way leads from a PLACE to another one by steps to PLACES beside (x or y 1 more or less)")
    private static void wayGoesEachDirection() {
        // around 27 stand walls with one gap, that of the step to it
        int[] around = {26, 28, 19, 35};
        for (int gap = 0; gap < 4; gap++) {
            int[] walls = new int[3];
            for (int i = 0; i < 3; i++) {
                walls[i] = around[i < gap ? i : i + 1];
            }
            NightValley x = withWalls(walls);
            Check.due("out of the gap " + around[gap], x.way(27, around[gap], 0), 1);
            Check.due("into the gap " + around[gap], x.way(around[gap], 27, 0), 1);
        }
        NightValley closed = withWalls(around);
        Check.due("out of no gap", closed.way(27, 0, 0), NightValley.NONE);
        Check.due("into no gap", closed.way(0, 27, 0), NightValley.NONE);
    }

    @Holds(promise = 27, sentence = "Returns the least number of steps of a way")
    private static void wayIsTheLeastOfALongWind() {
        int[] walls = new int[28];
        for (int row = 0; row < 4; row++) {
            for (int i = 0; i < 7; i++) {
                walls[7 * row + i] = 8 * (2 * row + 1) + (row % 2 == 0 ? i : i + 1);
            }
        }
        NightValley x = withWalls(walls);
        Check.due("by 0", x.way(0, 56, 0), 7 + 2 + 7 + 2 + 7 + 2 + 7 + 1);
        Check.due("back by 0", x.way(56, 0, 0), 35);
        Check.due("by 1", x.way(0, 56, 1), 7);
        NightValley shorter = withWalls(1, 9, 17, 4, 12, 20, 28);
        // over row 3 round the first wall, over row 4 round the second one
        Check.due("round two walls", shorter.way(0, 7, 0), 7 + 8);
    }

    @Holds(promise = 27, sentence = "NONE without one.")
    private static void wayIsNoneWithoutOne() {
        NightValley x = withWalls(3, 11, 19, 27, 35, 43, 51);
        Check.due("round the end of the wall", x.way(0, 7, 0), 21);
        x.lamp(0, 59, 1, 0, 0);
        Check.due("no way across", x.way(0, 7, 0), -1);
        Check.due("no way back", x.way(7, 0, 0), -1);
        Check.due("a way on this side", x.way(0, 58, 0), 9);
        Check.due("a way on the other side", x.way(7, 60, 0), 10);
        x.ridge(60, true);
        Check.due("a RIDGE is no wall", x.way(7, 60, 0), 10);
    }
}
