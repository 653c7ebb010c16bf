/** Promise 33: plan. */
final class PlanTest {
    public static void main(String[] args) {
        best();
        ties();
        bound();
        bitsOfTheVillage();
        allTen();
        refuses();
        Check.end();
    }

    private static NightValley withVillage() {
        NightValley x = new NightValley();
        x.village(1, 1000);
        return x;
    }

    private static void best() {
        NightValley x = withVillage();
        Check.due("no lamp", x.plan(0, 0, 10000), 0);
        x.lamp(0, 0, 1000, NightValley.AMBER, 0);
        x.lamp(0, 0, 1000, NightValley.WARM, 4);
        x.lamp(0, 0, 1000, NightValley.COLD, 9);
        // they give 1000, 1200 and 400, for 20, 12 and 2
        Check.due("nothing", x.plan(0, 0, 0), 0);
        Check.due("1", x.plan(0, 0, 1), 0);
        Check.due("2", x.plan(0, 0, 2), 4);
        Check.due("11", x.plan(0, 0, 11), 4);
        Check.due("12", x.plan(0, 0, 12), 2);
        Check.due("14", x.plan(0, 0, 14), 6);
        Check.due("22", x.plan(0, 0, 22), 6);
        Check.due("32", x.plan(0, 0, 32), 3);
        Check.due("33", x.plan(0, 0, 33), 3);
        Check.due("34", x.plan(0, 0, 34), 7);
        Check.due("questions change nothing", x.ofLamp(0, 3), 0);
        Check.due("no COINS are paid", x.ofVillage(0, 0), 1000);
    }

    private static void ties() {
        NightValley x = withVillage();
        x.lamp(0, 0, 1000, NightValley.WARM, 0);
        x.lamp(0, 0, 2000, NightValley.AMBER, 0);
        x.lamp(0, 0, 4000, NightValley.AMBER, 5);
        // all give 2000, for 20, 20 and 10
        Check.due("the one of least cost", x.plan(0, 0, 20), 4);
        Check.due("of least cost, then the lowest", x.plan(0, 0, 30), 5);
        x.hours(2, 12, 13);
        Check.due("the lowest", x.plan(0, 0, 20), 1);
        Check.due("a dark lamp is no gain", x.plan(0, 0, 100), 3);
        NightValley full = withVillage();
        full.lamp(0, 0, 1000, NightValley.WARM, 10);
        full.lamp(0, 0, 1000, NightValley.WARM, 9);
        Check.due("a full SHIELD is no gain", full.plan(0, 0, 100), 2);
        Check.due("a full SHIELD is no gain for nothing", full.plan(0, 0, 0), 0);
        NightValley weak = withVillage();
        weak.lamp(0, 0, 1, NightValley.AMBER, 0);
        Check.due("a gain of 1", weak.plan(0, 0, 20), 1);
    }

    private static void bound() {
        NightValley x = withVillage();
        x.lamp(0, 0, 1000, NightValley.COLD, 0);
        x.lamp(0, 0, 1000, NightValley.WARM, 0);
        x.lamp(0, 0, 1000, NightValley.AMBER, 0);
        Check.due("one of three", x.plan(0, 0, 20), 1);
        x.vote(0, 1, 0, 1, 0);
        Check.due("BOUND, but with its bit", x.plan(0, 0, 20), 2);
        Check.due("all but it", x.plan(0, 0, 10000), 6);
        x.vote(1, 0, 1, 1, 0);
        Check.due("the third alone", x.plan(0, 0, 10000), 4);
        for (int i = 0; i < 17; i++) {
            x.pass(500);
        }
        x.pass(259);
        Check.due("BOUND to the last", x.plan(0, 0, 10000), 4);
        x.pass(1);
        Check.due("BOUND no more", x.plan(0, 0, 10000), 7);
    }

    private static void bitsOfTheVillage() {
        NightValley x = withVillage();
        x.village(1, 0);
        x.lamp(0, 0, 1000, NightValley.COLD, 0);
        x.lamp(1, 0, 1, NightValley.AMBER, 0);
        x.lamp(0, 0, 1000, NightValley.COLD, 0);
        x.lamp(1, 63, 1000, NightValley.COLD, 0);
        Check.due("far at 0", x.plan(1, 0, 20), 2);
        Check.due("too far at 63", x.plan(1, 63, 40), 2);
        Check.due("both at 0", x.plan(1, 0, 40), 3);
        Check.due("village 0", x.plan(0, 0, 40), 3);
    }

    private static void allTen() {
        NightValley x = withVillage();
        for (int lamp = 0; lamp < 10; lamp++) {
            x.lamp(0, lamp, 1000, NightValley.COLD, lamp);
        }
        Check.due("all ten", x.plan(0, 0, 10000), 1023);
        Check.due("110 COINS", x.plan(0, 0, 110), 1023);
        Check.due("all but the one that gives least", x.plan(0, 0, 109), 1023 - 128);
        x.outage(0, 1);
        Check.due("none in an outage", x.plan(0, 0, 10000), 0);
    }

    private static void refuses() {
        NightValley x = withVillage();
        Check.refused("plan(1, 0, -1)", Check.INDEX, () -> x.plan(1, 0, -1));
        Check.refused("plan(-1, 0, 0)", Check.INDEX, () -> x.plan(-1, 0, 0));
        Check.refused("plan(0, 64, 10001)", Check.INDEX, () -> x.plan(0, 64, 10001));
        Check.refused("plan(0, -1, 0)", Check.INDEX, () -> x.plan(0, -1, 0));
        Check.refused("plan(0, 0, -1)", Check.ARGUMENT, () -> x.plan(0, 0, -1));
        Check.refused("plan(0, 0, 10001)", Check.ARGUMENT, () -> x.plan(0, 0, 10001));
    }
}
