/** The edges of promise 33: plan. */
final class PlanEdgesTest {
    public static void main(String[] args) {
        Edges.run(PlanEdgesTest.class);
    }

    @Holds(promise = 33, sentence = {"`village`: its number", "Throws `IndexOutOfBoundsException` if there is no such village or PLACE"})
    private static void planTakesTheVillagesThereAre() {
        NightValley x = new NightValley();
        Edges.refusesIndex("plan without a village", 0, village -> x.plan(village, 0, 0));
        Edges.addVillages(x, 5);
        Edges.refusesIndex("plan of 5 villages", 5, village -> x.plan(village, 0, 0));
        x.lamp(0, 0, 10, 0, 0);
        x.lamp(4, 0, 10, 0, 0);
        x.lamp(4, 0, 10, 0, 0);
        int[] due = {1, 0, 0, 0, 3};
        for (int village = 0; village < 5; village++) {
            Check.due("plan of village " + village, x.plan(village, 0, 40), due[village]);
        }
    }

    @Holds(promise = 33, sentence = {"`place`: 0 to 63", "Throws `IndexOutOfBoundsException` if there is no such village or PLACE"})
    private static void planTakesPlaces0And63() {
        NightValley x = Edges.withLamp(0, 98, 0, 0);
        Edges.addLamp(x, 0, 63, 98, 0, 0);
        Edges.refusesIndex("plan by place", 64, place -> x.plan(0, place, 40));
        Check.due("plan for 0", x.plan(0, 0, 40), 1);
        Check.due("plan for 63", x.plan(0, 63, 40), 2);
    }

    @Holds(promise = 33, sentence = {"`coins`: 0 to 10000", "Throws `IllegalArgumentException` if coins is out of range"})
    private static void planTakes0And10000Coins() {
        NightValley x = Edges.withLamp(0, 10, 0, 0);
        Edges.refusesArgument("plan by coins", 0, 10000, coins -> x.plan(0, 0, coins));
        Check.due("0 COINS", x.plan(0, 0, 0), 0);
        Check.due("10000 COINS", x.plan(0, 0, 10000), 1);
    }

    @Holds(promise = 33, sentence = "with what these refits cost (without a subsidy), together, at most these COINS")
    private static void planCostsAtMostTheCoins() {
        for (int shield = 0; shield < 10; shield++) {
            NightValley x = Edges.withLamp(0, 10, 0, shield);
            int cost = 2 * (10 - shield);
            Check.due("1 less than it costs from " + shield, x.plan(0, 0, cost - 1), 0);
            Check.due("what it costs from " + shield, x.plan(0, 0, cost), 1);
        }
        NightValley two = Edges.withLamp(0, 100, 0, 3);
        Edges.addLamp(two, 0, 0, 10, 0, 6);
        // they cost 14 and 8
        Check.due("7", two.plan(0, 0, 7), 0);
        Check.due("8", two.plan(0, 0, 8), 2);
        Check.due("13", two.plan(0, 0, 13), 2);
        Check.due("14", two.plan(0, 0, 14), 1);
        Check.due("21", two.plan(0, 0, 21), 1);
        Check.due("22", two.plan(0, 0, 22), 3);
    }

    @Holds(promise = 33, sentence = "whose SHIELDS would be raised to 10")
    private static void planRaisesNoDim() {
        NightValley x = Edges.withLamp(0, 100, 0, 5);
        x.vote(0, 5, 4, 50, 0);
        Edges.passTo(x, 8760);
        Check.due("9 COINS", x.plan(0, 0, 9), 0);
        Check.due("10 COINS for the SHIELD alone", x.plan(0, 0, 10), 1);
        NightValley full = Edges.withLamp(0, 100, NightValley.COLD, 10);
        Check.due("a SHIELD of 10 is no gain", full.plan(0, 0, 10000), 0);
        Check.due("nor for nothing", full.plan(0, 0, 0), 0);
    }

    @Holds(promise = 33, sentence = {"Returns the best plan.", "Returns the set.",
        "the best one makes the GLOW of the PLACE as it is now the least"})
    private static void planMakesTheGlowTheLeast() {
        NightValley x = Edges.withLamp(0, 100, NightValley.AMBER, 0);
        Edges.addLamp(x, 0, 0, 60, NightValley.AMBER, 5);
        Edges.addLamp(x, 0, 0, 61, NightValley.WARM, 5);
        // they give 100, 30 and 60, for 20, 10 and 10
        Check.due("20 COINS: 100 above 90", x.plan(0, 0, 20), 1);
        x.lamp(0, 0, 11, NightValley.AMBER, 0);
        x.vote(1, 6, 0, 50, 0);
        Check.due("with the second BOUND", x.plan(0, 0, 20), 1);
        NightValley dear = Edges.withLamp(0, 89, NightValley.AMBER, 0);
        Edges.addLamp(dear, 0, 0, 60, NightValley.AMBER, 5);
        Edges.addLamp(dear, 0, 0, 60, NightValley.WARM, 5);
        Check.due("20 COINS: 90 above 89", dear.plan(0, 0, 20), 6);
    }

    @Holds(promise = 33, sentence = "the GLOW of the PLACE as it is now")
    private static void planIsForTheGlowNow() {
        NightValley x = Edges.withLamp(0, 100, 0, 0);
        x.hours(0, 1, 2);
        Edges.addLamp(x, 0, 2, 4, NightValley.AMBER, 0);
        Check.due("a lamp that does not BURN, and 4 of 5", x.plan(0, 0, 10000), 0);
        Check.due("4 at its PLACE", x.plan(0, 2, 10000), 2);
        x.pass(1);
        Check.due("an hour later", x.plan(0, 0, 10000), 1);
        NightValley shaded = Edges.withLamp(0, 5, 0, 0);
        Check.due("1 is given", shaded.plan(0, 2, 20), 1);
        shaded.ridge(1, true);
        Check.due("nothing is given in the shade", shaded.plan(0, 2, 20), 0);
    }

    @Holds(promise = 33, sentence = "of several the one that costs the least")
    private static void planCostsTheLeastOfSeveral() {
        NightValley x = Edges.withLamp(0, 50, NightValley.AMBER, 0);
        Edges.addLamp(x, 0, 0, 100, NightValley.AMBER, 5);
        // both give 50, for 20 and 10
        Check.due("20 COINS", x.plan(0, 0, 20), 2);
        Check.due("29 COINS", x.plan(0, 0, 29), 2);
        Check.due("30 COINS", x.plan(0, 0, 30), 3);
        NightValley pair = Edges.withLamp(0, 50, NightValley.AMBER, 5);
        Edges.addLamp(pair, 0, 0, 40, NightValley.AMBER, 5);
        Edges.addLamp(pair, 0, 0, 50, NightValley.AMBER, 1);
        // they give 25, 20 and 45, for 10, 10 and 18
        Check.due("two for 20, or one for 18", pair.plan(0, 0, 20), 4);
    }

    @Holds(promise = 33, sentence = "of these the lowest set")
    private static void planIsTheLowestSetOfSeveral() {
        NightValley x = Edges.withVillage(100, 0);
        for (int lamp = 0; lamp < 4; lamp++) {
            Edges.addLamp(x, 0, 0, 50, NightValley.AMBER, 0);
        }
        Check.due("one of four", x.plan(0, 0, 20), 1);
        Check.due("two of four", x.plan(0, 0, 40), 3);
        Check.due("three of four", x.plan(0, 0, 60), 7);
        Check.due("all four", x.plan(0, 0, 80), 15);
        NightValley odd = Edges.withLamp(0, 15, NightValley.AMBER, 0);
        Edges.addLamp(odd, 0, 0, 20, NightValley.AMBER, 0);
        Edges.addLamp(odd, 0, 0, 15, NightValley.AMBER, 0);
        Edges.addLamp(odd, 0, 0, 20, NightValley.AMBER, 0);
        Check.due("one: the lowest of 20", odd.plan(0, 0, 20), 2);
        Check.due("two: both of 20", odd.plan(0, 0, 40), 10);
        Check.due("three: both of 20, the lowest of 15", odd.plan(0, 0, 60), 11);
        NightValley full = Edges.withLamp(0, 50, NightValley.AMBER, 10);
        Edges.addLamp(full, 0, 0, 50, NightValley.AMBER, 0);
        Edges.addLamp(full, 0, 0, 50, NightValley.AMBER, 10);
        Check.due("not those that cost and give nothing", full.plan(0, 0, 10000), 2);
    }

    @Holds(promise = 33, sentence = "its lamps by rising numbers are the bits 0, 1, ..")
    private static void planHasTheBitsOfItsVillage() {
        NightValley x = new NightValley();
        Edges.addVillages(x, 2);
        for (int lamp = 0; lamp < 8; lamp++) {
            Edges.addLamp(x, lamp % 2, lamp, 9, NightValley.AMBER, 0);
        }
        for (int lamp = 0; lamp < 8; lamp++) {
            Check.due("the bit of lamp " + lamp, x.plan(lamp % 2, lamp, 20), 1 << lamp / 2);
        }
    }

    @Holds(promise = 33, sentence = "A plan for a village, a PLACE and some COINS is a set of its lamps")
    private static void planIsOfNoLampAndOfAll10() {
        NightValley x = Edges.withVillage(1, 0);
        Check.due("of no lamp", x.plan(0, 0, 10000), 0);
        for (int lamp = 0; lamp < 10; lamp++) {
            Edges.addLamp(x, 0, 0, 100 + lamp, NightValley.AMBER, 0);
        }
        Check.due("of all 10", x.plan(0, 0, 200), 1023);
        Check.due("of 9: all but the first", x.plan(0, 0, 199), 1022);
        Check.due("of the last", x.plan(0, 0, 20), 512);
        Check.due("of none", x.plan(0, 0, 19), 0);
    }

    @Holds(promise = 33, sentence = "Lamps that are BOUND are in no plan, but have their bits")
    private static void planHasNoBoundLampsFor8760Hours() {
        for (int time : new int[] {0, 4}) {
            NightValley x = Edges.withLamp(0, 100, NightValley.AMBER, 0);
            Edges.addLamp(x, 0, 0, 100, NightValley.AMBER, 0);
            Edges.addLamp(x, 0, 0, 100, NightValley.AMBER, 0);
            Edges.passTo(x, time);
            x.vote(1, 1, 0, 50, 0);
            Check.due("at once", x.plan(0, 0, 10000), 5);
            Edges.passTo(x, time + 8759);
            Check.due("8759 hours behind", x.plan(0, 0, 10000), 5);
            x.pass(1);
            Check.due("8760 hours behind", x.plan(0, 0, 10000), 7);
        }
        NightValley all = Edges.withLamp(0, 100, NightValley.AMBER, 0);
        all.vote(0, 1, 0, 50, 0);
        Check.due("a BOUND lamp alone, by all COINS", all.plan(0, 0, 10000), 0);
    }

    @Holds(promise = 33, sentence = "what COINS the village has, and votes, do not matter")
    private static void planDoesNotLookAtCoinsAndVotes() {
        NightValley x = Edges.withVillage(500, 0);
        Edges.addLamp(x, 0, 0, 10, NightValley.COLD, 0);
        Check.due("no COINS", x.plan(0, 0, 20), 1);
        x.law(0, 24, NightValley.AMBER, 0);
        x.inspect(0);
        Check.due("COINS below 0", x.plan(0, 0, 20), 1);
        Check.due("a vote that does not pass", x.vote(0, 10, 0, 0, 500), NightValley.NONE);
        Check.due("behind that vote", x.plan(0, 0, 20), 1);
    }
}
