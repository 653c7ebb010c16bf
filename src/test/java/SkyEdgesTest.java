/** The edges of promises 23 to 25 and 32: gives, glow, glowFrom, culprit; what a lamp GIVES in promises 16 and 33 too. */
final class SkyEdgesTest {
    public static void main(String[] args) {
        Edges.run(SkyEdgesTest.class);
    }

    private static int directionOf(int lamp, int place) {
        int ex = lamp % 8 - place % 8;
        int ey = lamp / 8 - place / 8;
        if (lamp == place) {
            return NightValley.OVERHEAD;
        }
        if (ex > 0 && ey <= ex && ey >= -ex) {
            return NightValley.EAST;
        }
        if (ex < 0 && ey <= -ex && ey >= ex) {
            return NightValley.WEST;
        }
        return ey > 0 ? NightValley.SOUTH : NightValley.NORTH;
    }

    /** All that is asked of the sky of a PLACE that the lamp 0 alone GIVES this to, on day 0. */
    private static void checkGiven(String why, NightValley x, int lampPlace, int place, int due) {
        Check.due("gives " + why, x.gives(0, place), due);
        Check.due("glow " + why, x.glow(place), due);
        Check.due("glowFrom " + why, x.glowFrom(place, directionOf(lampPlace, place)), due);
        Check.due("culprit " + why, x.culprit(place), due > 0 ? 0 : NightValley.NONE);
        Check.due("plan " + why, x.plan(0, place, 20), due > 0 ? 1 : 0);
        int meter = x.meter(place, 0, 0);
        Check.due("read " + why, x.read(meter), due + 20);
    }

    // ---- promise 23: gives

    @Holds(promise = 23, sentence = {"`lamp`: its number", "Throws `IndexOutOfBoundsException` if there is no such lamp or PLACE"})
    private static void givesTakesTheLampsThereAre() {
        NightValley x = Edges.withVillage(1, 0);
        Edges.refusesIndex("gives without a lamp", 0, lamp -> x.gives(lamp, 0));
        for (int lamp = 0; lamp < 10; lamp++) {
            x.lamp(0, 0, lamp + 1, 0, 0);
        }
        Edges.refusesIndex("gives of 10 lamps", 10, lamp -> x.gives(lamp, 0));
        Check.due("gives(0, 0)", x.gives(0, 0), 1);
        Check.due("gives(9, 0)", x.gives(9, 0), 10);
    }

    @Holds(promise = 23, sentence = {"`place`: 0 to 63", "Throws `IndexOutOfBoundsException` if there is no such lamp or PLACE"})
    private static void givesTakesPlaces0And63() {
        NightValley x = Edges.withLamp(0, 9900, 0, 0);
        Edges.refusesIndex("gives by place", 64, place -> x.gives(0, place));
        Check.due("gives(0, 0)", x.gives(0, 0), 9900);
        Check.due("gives(0, 63)", x.gives(0, 63), 100);
    }

    @Holds(promise = 23, sentence = {"Returns what a lamp GIVES to a PLACE now.", "Returns what it GIVES.",
        "the PLACE 8 times y and x, together, x and y being 0 to 7 each"})
    private static void givesToAPlaceByItsXAndY() {
        // 7 and 8 are 7 columns and a row apart, 7 and 15 a row, 0 and 8 a row
        Check.due("from 7 to 8", Edges.withLamp(7, 1000, 0, 0).gives(0, 8), 1000 / 51);
        Check.due("from 8 to 7", Edges.withLamp(8, 1000, 0, 0).gives(0, 7), 1000 / 51);
        Check.due("from 7 to 15", Edges.withLamp(7, 1000, 0, 0).gives(0, 15), 500);
        Check.due("from 0 to 8", Edges.withLamp(0, 1000, 0, 0).gives(0, 8), 500);
        Check.due("from 0 to 7", Edges.withLamp(0, 1000, 0, 0).gives(0, 7), 20);
        Check.due("from 0 to 56", Edges.withLamp(0, 1000, 0, 0).gives(0, 56), 20);
        Check.due("from 63 to 0", Edges.withLamp(63, 1000, 0, 0).gives(0, 0), 10);
    }

    @Holds(promise = {16, 23, 24, 25, 32, 33}, sentence =
        "0, if it does not BURN; otherwise its LIGHT times (10 less its SHIELD), divided by 10")
    private static void givenByTheShield() {
        for (int shield = 0; shield <= 10; shield++) {
            NightValley x = Edges.withLamp(0, 19, NightValley.AMBER, shield);
            checkGiven("by SHIELD " + shield, x, 0, 0, 19 * (10 - shield) / 10);
        }
        checkGiven("9 by SHIELD 9", Edges.withLamp(0, 9, NightValley.COLD, 9), 0, 0, 0);
        checkGiven("10 by SHIELD 9", Edges.withLamp(0, 10, NightValley.COLD, 9), 0, 0, 4);
        // 13 * 9 / 10 is 11, and 11 * 9 / 10 is 9; in one it would be 10
        NightValley dimmed = Edges.withLamp(0, 13, NightValley.AMBER, 0);
        dimmed.vote(0, 1, 1, 50, 0);
        Check.due("13 by DIM 1 and SHIELD 1", dimmed.gives(0, 0), 9);
        NightValley dark = Edges.withLamp(0, 10000, NightValley.COLD, 0);
        dark.hours(0, 1, 2);
        checkGiven("by a lamp that does not BURN", dark, 0, 0, 0);
    }

    @Holds(promise = {16, 23, 24, 25, 32, 33}, sentence = "that times 1, 2 or 4, by its COLOUR")
    private static void givenByTheColour() {
        // 19 * 5 / 10 is 9 ahead of the COLOUR
        checkGiven("by AMBER", Edges.withLamp(0, 19, NightValley.AMBER, 5), 0, 0, 9);
        checkGiven("by WARM", Edges.withLamp(0, 19, NightValley.WARM, 5), 0, 0, 18);
        checkGiven("by COLD", Edges.withLamp(0, 19, NightValley.COLD, 5), 0, 0, 36);
        // and 3 * 4 / 5 is 2
        checkGiven("by COLD, 2 off", Edges.withLamp(0, 3, NightValley.COLD, 0), 0, 2, 2);
    }

    @Holds(promise = {16, 23, 24, 25, 32, 33},
        sentence = "that divided by (1 and dx times dx and dy times dy, together)")
    private static void givenByHowFarItIs() {
        for (int place = 0; place < 64; place++) {
            int far = 1 + (place % 8) * (place % 8) + (place / 8) * (place / 8);
            checkGiven("far at " + place, Edges.withLamp(0, 9999, NightValley.AMBER, 0), 0, place, 9999 / far);
        }
        checkGiven("98 of 99", Edges.withLamp(0, 98, NightValley.AMBER, 0), 0, 63, 0);
        checkGiven("99 of 99", Edges.withLamp(0, 99, NightValley.AMBER, 0), 0, 63, 1);
        checkGiven("98 of 99, across", Edges.withLamp(56, 98, NightValley.AMBER, 0), 56, 7, 0);
        checkGiven("99 of 99, across", Edges.withLamp(7, 99, NightValley.AMBER, 0), 7, 56, 1);
    }

    @Holds(promise = {16, 23, 24, 25, 32, 33}, sentence = "that divided by 2, if it is SHADED; that times 1, 2 or 5, by the air")
    private static void givenByTheShadeAndTheAir() {
        int[] factors = {1, 2, 5};
        for (int air = 0; air < 3; air++) {
            // 15 / 5 is 3, and 3 / 2 is 1 ahead of the air; 9 / 5 is 1, and 1 / 2 is 0
            for (int[] flux : new int[][] {{15, 3, 1}, {9, 1, 0}, {4, 0, 0}}) {
                NightValley open = Edges.withLamp(0, flux[0], NightValley.AMBER, 0);
                open.air(air);
                checkGiven("of " + flux[0] + " in air " + air, open, 0, 2, flux[1] * factors[air]);
                NightValley shaded = Edges.withLamp(0, flux[0], NightValley.AMBER, 0);
                shaded.air(air);
                shaded.ridge(1, true);
                checkGiven("of " + flux[0] + " SHADED in air " + air, shaded, 0, 2, flux[2] * factors[air]);
            }
        }
    }

    /** Each line is a lamp, a RIDGE and a PLACE. */
    private static void checkShade(boolean isShaded, int[][] lines) {
        for (int[] line : lines) {
            NightValley x = Edges.withLamp(line[0], 10000, NightValley.AMBER, 0);
            int open = x.gives(0, line[2]);
            x.ridge(line[1], true);
            String why = "from " + line[0] + " by the RIDGE " + line[1] + " to " + line[2];
            checkGiven(why, x, line[0], line[2], isShaded ? open / 2 : open);
        }
    }

    @Holds(promise = {16, 23, 24, 25, 32, 33}, sentence = "some RIDGE PLACE, other than the PLACE itself and that of the lamp")
    private static void noShadeByTheTwoPlacesThemselves() {
        checkShade(false, new int[][] {{0, 0, 2}, {0, 2, 2}, {2, 2, 0}, {2, 0, 0}, {9, 9, 9}, {0, 0, 9}, {0, 9, 9}, {63, 63, 0}});
        NightValley x = Edges.withLamp(9, 1000, NightValley.AMBER, 0);
        for (int place = 0; place < 64; place++) {
            x.ridge(place, true);
        }
        checkGiven("at the lamp, in RIDGES", x, 9, 9, 1000);
        checkGiven("beside it, in RIDGES", x, 9, 10, 500);
        checkGiven("across of it, in RIDGES that are not near", x, 9, 18, 1000 / 3);
        checkGiven("2 off, in RIDGES", x, 9, 11, 100);
    }

    @Holds(promise = {16, 23, 24, 25, 32, 33},
        sentence = "has its x between theirs, and its y likewise, both ends with them")
    private static void shadeBetweenTheTwoBothEndsWithThem() {
        // the RIDGE's x or y is that of the lamp or that of the PLACE
        checkShade(true, new int[][] {{0, 1, 10}, {0, 9, 10}, {10, 9, 0}, {10, 1, 0}, {0, 8, 17}, {0, 9, 17}, {17, 8, 0},
            {17, 9, 0}, {2, 1, 8}, {2, 9, 8}, {16, 8, 1}, {16, 9, 1}, {0, 3, 7}, {7, 3, 0}, {0, 24, 56}, {56, 24, 0}});
        // on the line, but behind the lamp or behind the PLACE
        checkShade(false, new int[][] {{1, 0, 2}, {1, 3, 2}, {8, 0, 16}, {8, 24, 16}, {9, 0, 18}, {9, 27, 18}, {18, 27, 9},
            {18, 0, 9}, {14, 7, 21}, {14, 28, 21}, {0, 3, 2}, {2, 3, 0}, {16, 24, 0}, {0, 24, 16}});
        // near the line, but with one of the two beyond an end
        checkShade(false, new int[][] {{1, 0, 11}, {1, 12, 11}, {8, 0, 25}, {8, 33, 25}, {9, 16, 3}, {9, 4, 3}});
    }

    @Holds(promise = {16, 23, 24, 25, 32, 33}, sentence = "twice the size of dx times ry less dy times rx, without its sign, "
        + "is at most the greater one of the sizes of dx and dy")
    private static void shadeNearTheLine() {
        // twice the size is just the greater one: 2 of 2, 4 of 4, 6 of 6
        checkShade(true, new int[][] {{0, 1, 10}, {0, 9, 10}, {0, 8, 17}, {0, 9, 17}, {0, 2, 12}, {0, 10, 12}, {0, 16, 33},
            {0, 17, 33}, {0, 3, 14}, {0, 11, 14}, {0, 24, 49}, {0, 25, 49}, {63, 62, 53}, {63, 54, 53}, {7, 6, 13}});
        // on the line, or nearer than that
        checkShade(true, new int[][] {{0, 9, 18}, {0, 27, 63}, {63, 36, 0}, {7, 14, 56}, {56, 49, 7}, {0, 1, 11}, {0, 10, 11},
            {0, 8, 25}, {0, 17, 25}, {0, 10, 20}, {0, 17, 34}, {0, 1, 15}, {0, 3, 15}, {0, 9, 29}});
        // the next above it: 4 of 2, 4 of 3, 6 of 5, 6 of 4, 8 of 7
        checkShade(false, new int[][] {{0, 1, 18}, {0, 8, 18}, {0, 9, 11}, {0, 2, 11}, {0, 9, 25}, {0, 16, 25}, {0, 3, 12},
            {0, 9, 12}, {0, 1, 29}, {0, 28, 29}, {0, 8, 43}, {0, 4, 15}, {0, 11, 15}, {0, 32, 57}, {0, 25, 57}});
    }

    // ---- promise 24: glow

    @Holds(promise = 24, sentence = {"`place`: 0 to 63", "Throws `IndexOutOfBoundsException` if there is no such PLACE"})
    private static void glowTakesPlaces0And63() {
        NightValley x = Edges.withLamp(0, 9900, 0, 0);
        Edges.refusesIndex("glow", 64, x::glow);
        Check.due("glow(0)", x.glow(0), 9900);
        Check.due("glow(63)", x.glow(63), 100);
    }

    @Holds(promise = 24, sentence = {"Returns the GLOW of a PLACE now.", "Returns the GLOW.",
        "The GLOW of a PLACE is what all lamps GIVE to it, together."})
    private static void glowIsOfNoneAndOfAll40() {
        NightValley x = new NightValley();
        Check.due("of no lamp", x.glow(0), 0);
        x.air(NightValley.CLOUDY);
        for (int village = 0; village < 4; village++) {
            x.village(1, 0);
            for (int lamp = 0; lamp < 10; lamp++) {
                x.lamp(village, 0, 10000, NightValley.COLD, 0);
            }
        }
        Check.due("of 40 lamps at 0", x.glow(0), 8000000);
        Check.due("of 40 lamps at 63", x.glow(63), 40 * (40000 / 99) * 5);
        x.outage(3, 1);
        Check.due("of 30 lamps", x.glow(0), 6000000);
        x.pass(6);
        Check.due("of none that BURNS", x.glow(0), 0);
    }

    // ---- promise 25: glowFrom

    @Holds(promise = 25, sentence = {"`place`: 0 to 63", "Throws `IndexOutOfBoundsException` if there is no such PLACE"})
    private static void glowFromTakesPlaces0And63() {
        NightValley x = Edges.withLamp(0, 9900, 0, 0);
        Edges.refusesIndex("glowFrom by place", 64, place -> x.glowFrom(place, 0));
        Check.due("glowFrom(0, OVERHEAD)", x.glowFrom(0, NightValley.OVERHEAD), 9900);
        Check.due("glowFrom(63, WEST)", x.glowFrom(63, NightValley.WEST), 100);
    }

    @Holds(promise = 25, sentence = {"`direction`: EAST to OVERHEAD", "Throws `IllegalArgumentException` if direction is out of range"})
    private static void glowFromTakesDirections0To4() {
        NightValley x = Edges.withLamp(28, 100, 0, 0);
        Edges.refusesArgument("glowFrom by direction", 0, 4, direction -> x.glowFrom(0, direction));
        int[] places = {27, 29, 20, 36, 28};
        int[] due = {50, 50, 50, 50, 100};
        for (int direction = 0; direction <= 4; direction++) {
            Check.due("from direction " + direction, x.glowFrom(places[direction], direction), due[direction]);
        }
    }

    private static void checkDirections(int place, int[] lamps, int due) {
        for (int lamp : lamps) {
            NightValley x = Edges.withLamp(lamp, 10000, NightValley.COLD, 0);
            for (int direction = 0; direction <= 4; direction++) {
                Check.due("of the lamp " + lamp + " at " + place + " from " + direction,
                    x.glowFrom(place, direction), direction == due ? x.glow(place) : 0);
            }
        }
    }

    // around the PLACE 35, which has x 3 and y 4

    @Holds(promise = 25, sentence = {"Returns the GLOW of a PLACE from a direction now.", "Returns the GLOW.",
        "EAST 0, if ex is above 0 and the size of ey at most ex"})
    private static void glowFromTheEast() {
        checkDirections(35, new int[] {36, 28, 44, 39, 21, 53, 29, 45, 14, 62, 15, 7}, NightValley.EAST);
    }

    @Holds(promise = 25, sentence = "WEST 1, if ex is below 0 and the size of ey at most that of ex")
    private static void glowFromTheWest() {
        checkDirections(35, new int[] {34, 26, 42, 32, 17, 49, 25, 41, 8, 56, 16}, NightValley.WEST);
    }

    @Holds(promise = 25, sentence = "otherwise SOUTH 2, if ey is above 0")
    private static void glowFromTheSouth() {
        checkDirections(35, new int[] {43, 59, 52, 50, 58, 60, 61, 57, 51}, NightValley.SOUTH);
    }

    @Holds(promise = 25, sentence = "NORTH 3, if it is below 0")
    private static void glowFromTheNorth() {
        checkDirections(35, new int[] {27, 3, 20, 18, 2, 4, 0, 6, 5, 13, 9}, NightValley.NORTH);
    }

    @Holds(promise = 25, sentence = "It comes from directions: OVERHEAD 4 from lamps at the PLACE")
    private static void glowFromOverhead() {
        for (int place : new int[] {0, 7, 35, 56, 63}) {
            checkDirections(place, new int[] {place}, NightValley.OVERHEAD);
        }
    }

    @Holds(promise = 25, sentence = "It comes from directions")
    private static void glowFromAllDirectionsIsTheGlow() {
        NightValley x = Edges.withLamp(35, 100, 0, 0);
        for (int lamp : new int[] {34, 36, 27, 43, 0, 7, 56, 63, 28}) {
            Edges.addLamp(x, 0, lamp, 1000, NightValley.WARM, 3);
        }
        for (int place = 0; place < 64; place++) {
            int all = 0;
            for (int direction = 0; direction <= 4; direction++) {
                all += x.glowFrom(place, direction);
            }
            Check.due("all directions at " + place, all, x.glow(place));
        }
    }

    // ---- promise 32: culprit

    @Holds(promise = 32, sentence = {"`place`: 0 to 63", "Throws `IndexOutOfBoundsException` if there is no such PLACE"})
    private static void culpritTakesPlaces0And63() {
        NightValley x = Edges.withLamp(0, 100, 0, 0);
        Edges.addLamp(x, 0, 63, 100, 0, 0);
        Edges.refusesIndex("culprit", 64, x::culprit);
        Check.due("culprit(0)", x.culprit(0), 0);
        Check.due("culprit(63)", x.culprit(63), 1);
    }

    @Holds(promise = 32, sentence = {"Returns the culprit of a PLACE.", "The culprit of a PLACE is the lamp that GIVES the most to it now, of several the lowest."})
    private static void culpritIsTheLowestOfThoseThatGiveTheMost() {
        NightValley x = Edges.withLamp(0, 99, NightValley.AMBER, 0);
        Edges.addLamp(x, 0, 0, 50, NightValley.WARM, 0);
        Edges.addLamp(x, 0, 0, 25, NightValley.COLD, 0);
        Edges.addLamp(x, 0, 0, 100, NightValley.AMBER, 0);
        Check.due("100 by the lamps 1, 2 and 3", x.culprit(0), 1);
        x.hours(1, 1, 2);
        Check.due("by the lamps 2 and 3", x.culprit(0), 2);
        x.hours(2, 1, 2);
        Check.due("by the lamp 3", x.culprit(0), 3);
        x.hours(3, 1, 2);
        Check.due("99 by the lamp 0", x.culprit(0), 0);
        // of 99 and of 50 times 2 at most 1 arrives at 63
        x.hours(1, 0, 0);
        Check.due("1 by the lamps 0 and 1", x.culprit(63), 0);
    }

    @Holds(promise = 32, sentence = "Returns the lamp; NONE if none GIVES anything to it.")
    private static void culpritIsNoneIfNothingIsGiven() {
        Check.due("without a lamp", new NightValley().culprit(0), -1);
        NightValley x = Edges.withLamp(0, 98, NightValley.AMBER, 0);
        Edges.addLamp(x, 0, 63, 10000, NightValley.COLD, 10);
        Check.due("98 of 99, and a full SHIELD", x.culprit(63), NightValley.NONE);
        Check.due("98 at the lamp", x.culprit(0), 0);
        Edges.addLamp(x, 0, 63, 1, NightValley.AMBER, 0);
        Check.due("1 is given", x.culprit(63), 2);
        x.hours(2, 1, 2);
        Check.due("1 is given no more", x.culprit(63), NightValley.NONE);
    }

    @Holds(promise = 32, sentence = "Returns the lamp")
    private static void culpritIsTheLastOf40() {
        NightValley x = new NightValley();
        Edges.addVillages(x, 5);
        for (int lamp = 0; lamp < 39; lamp++) {
            x.lamp(lamp % 4, 0, 1, 0, 0);
        }
        x.lamp(4, 0, 2, 0, 0);
        Check.due("the lamp 39", x.culprit(0), 39);
    }
}
