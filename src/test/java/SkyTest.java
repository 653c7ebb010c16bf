/** Promises 23 to 25 and 32: gives, glow, glowFrom, culprit. */
final class SkyTest {
    public static void main(String[] args) {
        gives();
        rounding();
        shaded();
        notShaded();
        glow();
        directions();
        culprit();
        refuses();
        Check.end();
    }

    private static NightValley withLamp(int place, int flux, int colour, int shield) {
        NightValley x = new NightValley();
        x.village(100, 10000);
        x.lamp(0, place, flux, colour, shield);
        return x;
    }

    private static void gives() {
        int[] factors = {1, 2, 4};
        for (int colour = 0; colour < 3; colour++) {
            NightValley x = withLamp(27, 1000, colour, 4);
            Check.due("at the lamp", x.gives(0, 27), 600 * factors[colour]);
            Check.due("beside it", x.gives(0, 28), 300 * factors[colour]);
            Check.due("across", x.gives(0, 18), 200 * factors[colour]);
            Check.due("4 and 4 off", x.gives(0, 63), 600 * factors[colour] / 33);
        }
        NightValley x = withLamp(0, 10000, NightValley.COLD, 0);
        x.pass(12);
        Check.due("it does not BURN", x.gives(0, 0), 0);
        x.pass(6);
        Check.due("it BURNS", x.gives(0, 0), 40000);
        Check.due("the farthest", x.gives(0, 63), 40000 / 99);
        x.vote(0, 0, 5, 100, 0);
        Check.due("dimmed", x.gives(0, 0), 20000);
        NightValley full = withLamp(0, 10000, NightValley.COLD, 10);
        Check.due("a full SHIELD", full.gives(0, 0), 0);
    }

    private static void rounding() {
        NightValley x = withLamp(0, 19, NightValley.COLD, 5);
        Check.due("19 by half, then 4 times", x.gives(0, 0), 36);
        Check.due("by 2", x.gives(0, 1), 18);
        Check.due("by 5", x.gives(0, 2), 7);
        x.ridge(1, true);
        Check.due("7 by half", x.gives(0, 2), 3);
        x.air(NightValley.CLOUDY);
        Check.due("3 by the air", x.gives(0, 2), 15);
        x.air(NightValley.DUSTY);
        Check.due("3 by the dust", x.gives(0, 2), 6);
    }

    /** Lamp, RIDGE, PLACE. */
    private static void shaded() {
        int[][] lines = {
            {0, 1, 2}, {2, 1, 0}, {0, 8, 16}, {16, 8, 0}, {0, 9, 18}, {18, 9, 0}, {7, 14, 21}, {56, 49, 42},
            {0, 1, 10}, {0, 9, 10}, {10, 1, 0}, {10, 9, 0}, {0, 8, 17}, {0, 9, 17},
            {0, 1, 11}, {0, 10, 11}, {0, 36, 63}, {0, 10, 29}, {0, 19, 29}, {63, 44, 34}, {24, 25, 31},
            {16, 8, 1}, {16, 9, 1}, {17, 8, 0}, {63, 38, 21}, {56, 41, 34},
        };
        for (int[] line : lines) {
            NightValley x = withLamp(line[0], 1000, NightValley.AMBER, 0);
            int open = x.gives(0, line[2]);
            x.ridge(line[1], true);
            Check.due("RIDGE " + line[1] + " from " + line[0] + " to " + line[2], x.gives(0, line[2]), open / 2);
            for (int place = 0; place < 64; place++) {
                x.ridge(place, true);
            }
            Check.due("shaded once by many", x.gives(0, line[2]), open / 2);
        }
    }

    private static void notShaded() {
        int[][] lines = {
            {0, 0, 2}, {0, 2, 2}, {0, 3, 2}, {8, 9, 8}, {9, 8, 10}, {0, 9, 2}, {8, 1, 10}, {0, 1, 18}, {0, 8, 18},
            {0, 9, 11}, {0, 8, 11}, {0, 2, 11}, {0, 27, 18}, {18, 0, 9}, {0, 18, 29}, {0, 20, 63}, {3, 3, 3},
            {18, 9, 27}, {27, 36, 18}, {63, 45, 34}, {0, 4, 11}, {56, 48, 58}, {0, 16, 18},
        };
        for (int[] line : lines) {
            NightValley x = withLamp(line[0], 1000, NightValley.AMBER, 0);
            int open = x.gives(0, line[2]);
            x.ridge(line[1], true);
            Check.due("RIDGE " + line[1] + " from " + line[0] + " to " + line[2], x.gives(0, line[2]), open);
        }
    }

    private static void glow() {
        NightValley x = withLamp(0, 1000, NightValley.COLD, 0);
        x.village(1, 0);
        x.lamp(1, 3, 500, NightValley.AMBER, 5);
        Check.due("both at 0", x.glow(0), 4000 + 25);
        Check.due("both at 3", x.glow(3), 400 + 250);
        x.outage(1, 1);
        Check.due("one at 0", x.glow(0), 4000);
        x.outage(0, 1);
        Check.due("none at 0", x.glow(0), 0);
    }

    private static void directions() {
        for (int lamp = 0; lamp < 64; lamp++) {
            NightValley x = withLamp(lamp, 10000, NightValley.COLD, 0);
            int ex = lamp % 8 - 3;
            int ey = lamp / 8 - 4;
            int due = NightValley.NORTH;
            if (ex == 0 && ey == 0) {
                due = NightValley.OVERHEAD;
            } else if (ex > 0 && -ex <= ey && ey <= ex) {
                due = NightValley.EAST;
            } else if (ex < 0 && ex <= ey && ey <= -ex) {
                due = NightValley.WEST;
            } else if (ey > 0) {
                due = NightValley.SOUTH;
            }
            for (int direction = 0; direction < 5; direction++) {
                Check.due("lamp " + lamp + " from direction " + direction,
                    x.glowFrom(35, direction), direction == due ? x.glow(35) : 0);
            }
            x.lamp(0, lamp, 10, NightValley.AMBER, 0);
            Check.due("two lamps at " + lamp, x.glowFrom(35, due), x.gives(0, 35) + x.gives(1, 35));
        }
    }

    private static void culprit() {
        NightValley x = withLamp(0, 100, NightValley.AMBER, 0);
        x.lamp(0, 0, 50, NightValley.WARM, 0);
        x.lamp(0, 0, 101, NightValley.AMBER, 0);
        x.lamp(0, 0, 10000, NightValley.COLD, 10);
        Check.due("the most", x.culprit(0), 2);
        x.hours(2, 12, 13);
        Check.due("the lowest of two", x.culprit(0), 0);
        x.hours(0, 12, 13);
        Check.due("the second of two", x.culprit(0), 1);
        Check.due("1 of 99 is 1", x.culprit(63), 1);
        x.hours(1, 12, 13);
        Check.due("none", x.culprit(0), NightValley.NONE);
        NightValley weak = withLamp(0, 98, NightValley.AMBER, 0);
        Check.due("nothing arrives", weak.culprit(63), NightValley.NONE);
    }

    private static void refuses() {
        NightValley x = withLamp(0, 100, NightValley.AMBER, 0);
        Check.refused("gives(1, 0)", Check.INDEX, () -> x.gives(1, 0));
        Check.refused("gives(-1, 0)", Check.INDEX, () -> x.gives(-1, 0));
        Check.refused("gives(0, 64)", Check.INDEX, () -> x.gives(0, 64));
        Check.refused("gives(0, -1)", Check.INDEX, () -> x.gives(0, -1));
        Check.refused("glow(64)", Check.INDEX, () -> x.glow(64));
        Check.refused("glow(-1)", Check.INDEX, () -> x.glow(-1));
        Check.refused("glowFrom(64, 5)", Check.INDEX, () -> x.glowFrom(64, 5));
        Check.refused("glowFrom(-1, 0)", Check.INDEX, () -> x.glowFrom(-1, 0));
        Check.refused("glowFrom(0, 5)", Check.ARGUMENT, () -> x.glowFrom(0, 5));
        Check.refused("glowFrom(0, -1)", Check.ARGUMENT, () -> x.glowFrom(0, -1));
        Check.refused("culprit(64)", Check.INDEX, () -> x.culprit(64));
        Check.refused("culprit(-1)", Check.INDEX, () -> x.culprit(-1));
    }
}
