/** The edges of promises 13 and 14: vote, inspect. */
final class VoteEdgesTest {
    public static void main(String[] args) {
        Edges.run(VoteEdgesTest.class);
    }

    private static NightValley withHouseholds(int households) {
        NightValley x = Edges.withVillage(households, 10000);
        Edges.addLamp(x, 0, 0, 10, NightValley.COLD, 0);
        return x;
    }

    private static NightValley withCoins(int coins) {
        NightValley x = Edges.withVillage(1, coins);
        Edges.addLamp(x, 0, 0, 10, NightValley.COLD, 0);
        return x;
    }

    /** Behind a vote: the SHIELD, the DIM, the hours of being BOUND, the COINS. */
    private static void checkLamp(String call, NightValley x, int... due) {
        Check.due("SHIELD behind " + call, x.ofLamp(0, 3), due[0]);
        Check.due("DIM behind " + call, x.ofLamp(0, 4), due[1]);
        Check.due("BOUND behind " + call, x.ofLamp(0, 5), due[2]);
        Check.due("COINS behind " + call, x.ofVillage(0, 0), due[3]);
    }

    // ---- promise 13: vote

    @Holds(promise = 13, sentence = {"`lamp`: its number", "Throws `IndexOutOfBoundsException` if there is no such lamp"})
    private static void voteTakesTheLampsThereAre() {
        NightValley x = Edges.withVillage(1, 100);
        Edges.refusesIndex("vote without a lamp", 0, lamp -> x.vote(lamp, 1, 0, 1, 0));
        Edges.addLamps(x, 0, 10);
        Edges.refusesIndex("vote of 10 lamps", 10, lamp -> x.vote(lamp, 1, 0, 1, 0));
        Check.due("vote of lamp 9", x.vote(9, 2, 0, 1, 0), 2);
        Check.due("SHIELD of lamp 9", x.ofLamp(9, 3), 2);
        Check.due("SHIELD of lamp 8", x.ofLamp(8, 3), 0);
        Check.due("vote of lamp 0", x.vote(0, 1, 0, 1, 0), 1);
    }

    @Holds(promise = 13, sentence = {"`shield`: its SHIELD then, 0 to 10", "shield, dim, yeses or noes is out of range"})
    private static void voteTakesAShieldTo10() {
        NightValley x = withHouseholds(100);
        Edges.refusesArgument("vote by shield", 0, 10, shield -> x.vote(0, shield, 1, 50, 0));
        Check.due("SHIELD 10", x.vote(0, 10, 0, 50, 0), 10);
        checkLamp("SHIELD 10", x, 10, 0, 8760, 9990);
    }

    @Holds(promise = 13, sentence = {"`dim`: its DIM then, 0 to 10", "shield, dim, yeses or noes is out of range"})
    private static void voteTakesADimTo10() {
        NightValley x = withHouseholds(100);
        Edges.refusesArgument("vote by dim", 0, 10, dim -> x.vote(0, 1, dim, 50, 0));
        Check.due("DIM 10", x.vote(0, 0, 10, 50, 0), 15);
        checkLamp("DIM 10", x, 0, 10, 8760, 9985);
    }

    @Holds(promise = 13, sentence = {"`yeses`: 0 to 500", "shield, dim, yeses or noes is out of range"})
    private static void voteTakes0And500Yeses() {
        NightValley x = withHouseholds(500);
        Edges.refusesArgument("vote by yeses", 0, 500, yeses -> x.vote(0, 1, 0, yeses, 0));
        Check.refused("-1 yeses and 250 noes", Check.ARGUMENT, () -> x.vote(0, 1, 0, -1, 250));
        Check.due("0 yeses", x.vote(0, 1, 0, 0, 500), NightValley.NONE);
        Check.due("500 yeses", x.vote(0, 1, 0, 500, 0), 1);
    }

    @Holds(promise = 13, sentence = {"`noes`: 0 to 500", "shield, dim, yeses or noes is out of range"})
    private static void voteTakes0And500Noes() {
        NightValley x = withHouseholds(500);
        Edges.refusesArgument("vote by noes", 0, 500, noes -> x.vote(0, 1, 0, 0, noes));
        Check.refused("251 yeses and -1 noes", Check.ARGUMENT, () -> x.vote(0, 1, 0, 251, -1));
        Check.refused("both of the greatest int", Check.ARGUMENT,
            () -> x.vote(0, 1, 0, Integer.MAX_VALUE, Integer.MAX_VALUE));
        Check.due("500 noes", x.vote(0, 1, 0, 0, 500), NightValley.NONE);
        Check.due("0 noes", x.vote(0, 1, 0, 250, 0), 1);
    }

    @Holds(promise = 13, sentence = {"there are more yeses and noes than households",
        "Throws `IllegalArgumentException` if shield, dim, yeses or noes is out of range, shield or dim is lower than "
            + "what the lamp has, or there are more yeses and noes than households"})
    private static void voteTakesAsManyVotesAsHouseholds() {
        for (int households : new int[] {1, 7, 100, 499}) {
            NightValley x = withHouseholds(households);
            Check.refused(households + " yeses and 1 no", Check.ARGUMENT, () -> x.vote(0, 1, 0, households, 1));
            Check.refused("1 yes and " + households + " noes", Check.ARGUMENT, () -> x.vote(0, 1, 0, 1, households));
            Check.refused(households + " and 1 yeses", Check.ARGUMENT, () -> x.vote(0, 1, 0, households + 1, 0));
            Check.due("all are noes", x.vote(0, 1, 0, 0, households), NightValley.NONE);
            Check.due("all are yeses", x.vote(0, 1, 0, households, 0), 1);
        }
        NightValley x = withHouseholds(500);
        Check.refused("500 and 500 of 500", Check.ARGUMENT, () -> x.vote(0, 1, 0, 500, 500));
        Check.due("251 and 249 of 500", x.vote(0, 1, 0, 251, 249), 1);
    }

    @Holds(promise = 13, sentence = {"shield or dim is lower than what the lamp has", "neither to a lower one"})
    private static void voteRefusesALowerShieldOrDim() {
        NightValley x = Edges.withLamp(0, 10, 0, 5);
        x.vote(0, 5, 5, 50, 0);
        Edges.passTo(x, 8760);
        Check.refused("SHIELD 4 of 5, and DIM 6", Check.ARGUMENT, () -> x.vote(0, 4, 6, 50, 0));
        Check.refused("SHIELD 0 of 5, and DIM 10", Check.ARGUMENT, () -> x.vote(0, 0, 10, 50, 0));
        Check.refused("DIM 4 of 5, and SHIELD 6", Check.ARGUMENT, () -> x.vote(0, 6, 4, 50, 0));
        Check.refused("DIM 0 of 5, and SHIELD 10", Check.ARGUMENT, () -> x.vote(0, 10, 0, 50, 0));
        Check.refused("both lower", Check.ARGUMENT, () -> x.vote(0, 4, 4, 50, 0));
        Check.refused("SHIELD 4 of 5, the DIM that it has", Check.ARGUMENT, () -> x.vote(0, 4, 5, 50, 0));
        Check.refused("a lower one, and no votes", Check.ARGUMENT, () -> x.vote(0, 4, 6, 0, 0));
        Check.due("the SHIELD that it has, and DIM 6", x.vote(0, 5, 6, 50, 0), 2);
    }

    @Holds(promise = 13, sentence = {"A refit of a lamp raises its SHIELD or its DIM, or both, to other numbers",
        "or neither is higher than what the lamp has"})
    private static void voteRefusesWhatTheLampHas() {
        NightValley x = Edges.withLamp(0, 10, 0, 3);
        Check.refused("SHIELD 3 of 3, DIM 0 of 0", Check.STATE, () -> x.vote(0, 3, 0, 50, 0));
        Check.refused("with votes that do not pass", Check.STATE, () -> x.vote(0, 3, 0, 0, 50));
        Check.due("SHIELD 4 of 3 alone", x.vote(0, 4, 0, 50, 0), 1);
        NightValley dim = Edges.withLamp(0, 10, 0, 3);
        Check.due("DIM 1 of 0 alone", dim.vote(0, 3, 1, 50, 0), 2);
        NightValley full = Edges.withLamp(0, 10, 0, 10);
        full.vote(0, 10, 10, 50, 0);
        Edges.passTo(full, 8760);
        Check.refused("SHIELD 10 of 10, DIM 10 of 10", Check.STATE, () -> full.vote(0, 10, 10, 50, 0));
    }

    @Holds(promise = 13, sentence = "the refit passes, if there are more yeses than noes")
    private static void votePassesByMoreYesesThanNoes() {
        NightValley x = withHouseholds(10);
        Check.due("5 and 5", x.vote(0, 1, 0, 5, 5), NightValley.NONE);
        Check.due("4 and 6", x.vote(0, 1, 0, 4, 6), NightValley.NONE);
        Check.due("3 and 3", x.vote(0, 1, 0, 3, 3), NightValley.NONE);
        checkLamp("as many", x, 0, 0, 0, 10000);
        Check.due("6 and 4", x.vote(0, 1, 0, 6, 4), 1);
        NightValley odd = withHouseholds(11);
        Check.due("5 and 6", odd.vote(0, 1, 0, 5, 6), NightValley.NONE);
        Check.due("6 and 5", odd.vote(0, 1, 0, 6, 5), 1);
    }

    @Holds(promise = 13, sentence = "both together are at least half of its households (twice them at least these)")
    private static void votePassesByHalfOfTheHouseholds() {
        int[][] leasts = {{1, 1}, {2, 1}, {3, 2}, {9, 5}, {10, 5}, {11, 6}, {499, 250}, {500, 250}};
        for (int[] least : leasts) {
            NightValley x = withHouseholds(least[0]);
            Check.due("one too few of " + least[0], x.vote(0, 1, 0, least[1] - 1, 0), NightValley.NONE);
            checkLamp("too few", x, 0, 0, 0, 10000);
            Check.due("just enough of " + least[0], x.vote(0, 1, 0, least[1], 0), 1);
        }
        NightValley both = withHouseholds(10);
        Check.due("3 and 1 of 10", both.vote(0, 1, 0, 3, 1), NightValley.NONE);
        Check.due("3 and 2 of 10", both.vote(0, 1, 0, 3, 2), 1);
    }

    @Holds(promise = 13, sentence = "and the village has the COINS that it pays")
    private static void votePassesByTheCoins() {
        int[][] refits = {{1, 0, 1}, {0, 1, 2}, {1, 1, 3}, {10, 0, 10}, {0, 10, 15}, {10, 10, 25}};
        for (int[] refit : refits) {
            int pays = refit[2];
            NightValley poor = withCoins(pays - 1);
            Check.due(pays - 1 + " of " + pays + " COINS", poor.vote(0, refit[0], refit[1], 1, 0), NightValley.NONE);
            checkLamp("too few COINS", poor, 0, 0, 0, pays - 1);
            NightValley x = withCoins(pays);
            Check.due(pays + " of " + pays + " COINS", x.vote(0, refit[0], refit[1], 1, 0), pays);
            checkLamp("all COINS", x, refit[0], refit[1], 8760, 0);
        }
        NightValley below = withCoins(5);
        below.law(0, 24, NightValley.AMBER, 0);
        below.inspect(0);
        Check.due("COINS below 0", below.vote(0, 1, 0, 1, 0), NightValley.NONE);
    }

    @Holds(promise = 13, sentence = {"it costs 2 COINS for each 1 of SHIELD, and 3 for each 1 of DIM",
        "what it costs, less a subsidy of half of that, rounded down", "Returns what the village pays"})
    private static void votePaysLessASubsidyRoundedDown() {
        for (int shield = 0; shield <= 10; shield++) {
            for (int dim = 0; dim <= 10; dim++) {
                if (shield + dim > 0) {
                    NightValley x = withCoins(100);
                    int cost = 2 * shield + 3 * dim;
                    int pays = cost % 2 == 0 ? cost / 2 : (cost + 1) / 2;
                    Check.due("to " + shield + " and " + dim, x.vote(0, shield, dim, 1, 0), pays);
                    checkLamp("to " + shield + " and " + dim, x, shield, dim, 8760, 100 - pays);
                }
            }
        }
    }

    @Holds(promise = 13, sentence = "it costs 2 COINS for each 1 of SHIELD, and 3 for each 1 of DIM")
    private static void votePaysForWhatIsRaisedAlone() {
        NightValley x = Edges.withLamp(0, 10, 0, 9);
        Check.due("SHIELD 9 to 10", x.vote(0, 10, 4, 50, 0), 7);
        Edges.passTo(x, 8760);
        Check.due("DIM 4 to 6", x.vote(0, 10, 6, 50, 0), 3);
    }

    @Holds(promise = 13, sentence = {"Lets the village of a lamp vote on a refit.", "The village of the lamp votes"})
    private static void voteIsOfTheLampsVillage() {
        NightValley x = Edges.withVillage(500, 50);
        x.village(3, 60);
        Edges.addLamp(x, 1, 0, 10, 0, 0);
        Check.refused("4 of 3 households", Check.ARGUMENT, () -> x.vote(0, 2, 0, 4, 0));
        Check.due("2 of 3 households", x.vote(0, 2, 0, 2, 0), 2);
        Check.due("COINS of village 0", x.ofVillage(0, 0), 50);
        Check.due("COINS of village 1", x.ofVillage(1, 0), 58);
    }

    @Holds(promise = 13, sentence = "Returns what the village pays; NONE if it does not pass.")
    private static void voteThatDoesNotPassLeavesAll() {
        NightValley x = withHouseholds(10);
        Check.due("no votes at all", x.vote(0, 5, 5, 0, 0), -1);
        checkLamp("no votes", x, 0, 0, 0, 10000);
        x.hours(0, 12, 13);
        Check.due("its hours can be told", x.ofLamp(0, 0), 0);
        Check.due("it can be refitted", x.vote(0, 5, 5, 5, 0), 13);
    }

    @Holds(promise = 13, sentence = {"Throws `IllegalStateException` if it is BOUND, or neither is higher than what the lamp has",
        "the lamp is BOUND for 365 days: from then on, as long as the time is less than 8760 hours behind that"})
    private static void voteOnABoundLampIsRefusedFor8760Hours() {
        for (int time : new int[] {0, 7}) {
            NightValley x = withHouseholds(10);
            Edges.passTo(x, time);
            x.vote(0, 1, 1, 10, 0);
            Check.refused("at once", Check.STATE, () -> x.vote(0, 2, 1, 10, 0));
            Check.refused("with votes that do not pass", Check.STATE, () -> x.vote(0, 2, 1, 0, 10));
            Check.refused("what it has", Check.STATE, () -> x.vote(0, 1, 1, 10, 0));
            Edges.passTo(x, time + 8759);
            Check.refused("8759 hours behind", Check.STATE, () -> x.vote(0, 2, 1, 10, 0));
            x.pass(1);
            Check.due("8760 hours behind", x.vote(0, 2, 1, 10, 0), 1);
            Check.due("BOUND again", x.ofLamp(0, 5), 8760);
        }
    }

    // ---- promise 14: inspect

    @Holds(promise = 14, sentence = {"`zone`: 0 to 3", "Throws `IndexOutOfBoundsException` if there is no such ZONE"})
    private static void inspectTakesZones0And3() {
        NightValley x = withCoins(100);
        Edges.addLamp(x, 0, 1, 10, NightValley.COLD, 0);
        x.zone(1, 3);
        for (int zone = 0; zone < 4; zone++) {
            x.law(zone, 24, NightValley.AMBER, 0);
        }
        Edges.refusesIndex("inspect", 4, x::inspect);
        int[] due = {1, 0, 0, 1};
        for (int zone = 0; zone < 4; zone++) {
            Check.due("inspect(" + zone + ")", x.inspect(zone), due[zone]);
        }
    }

    @Holds(promise = 14, sentence = {"Inspects a ZONE.", "Returns how many lamps are fined."})
    private static void inspectFinesNoneAndAll40() {
        NightValley x = new NightValley();
        Check.due("no lamp", x.inspect(0), 0);
        Edges.addVillages(x, 4);
        for (int lamp = 0; lamp < 40; lamp++) {
            x.lamp(lamp % 4, lamp, 1, NightValley.WARM, 0);
        }
        Check.due("all are lawful", x.inspect(0), 0);
        x.law(0, 24, NightValley.AMBER, 0);
        Check.due("all are unlawful", x.inspect(0), 40);
        for (int village = 0; village < 4; village++) {
            Check.due("COINS of village " + village, x.ofVillage(village, 0), -100);
            Check.due("fines of village " + village, x.ofVillage(village, 3), 100);
        }
    }

    @Holds(promise = 14, sentence = "its COLOUR is above the greatest one of its ZONE, or its SHIELD below the least one")
    private static void inspectFinesTheUnlawfulAlone() {
        for (int colour = 0; colour < 3; colour++) {
            for (int shield = 4; shield <= 6; shield++) {
                NightValley x = Edges.withLamp(0, 10, colour, shield);
                x.law(0, 24, NightValley.WARM, 5);
                boolean unlawful = colour == NightValley.COLD || shield == 4;
                Check.due("COLOUR " + colour + ", SHIELD " + shield, x.inspect(0), unlawful ? 1 : 0);
                Check.due("COINS", x.ofVillage(0, 0), unlawful ? 9990 : 10000);
            }
        }
        NightValley x = Edges.withLamp(0, 10, NightValley.COLD, 0);
        x.law(0, 24, NightValley.AMBER, 10);
        x.exempt(0, true);
        Check.due("an exempt lamp", x.inspect(0), 0);
        x.exempt(0, false);
        Check.due("exempt no more", x.inspect(0), 1);
    }

    @Holds(promise = 14, sentence = "unless the lamp was fined less than 720 hours ago")
    private static void inspectFinesAgainBehind720Hours() {
        for (int time : new int[] {0, 5}) {
            NightValley x = withCoins(100);
            x.law(0, 24, NightValley.AMBER, 0);
            Edges.passTo(x, time);
            Check.due("the first fine", x.inspect(0), 1);
            Check.due("at once", x.inspect(0), 0);
            Edges.passTo(x, time + 719);
            Check.due("719 hours behind", x.inspect(0), 0);
            Check.due("COINS behind 719 hours", x.ofVillage(0, 0), 90);
            x.pass(1);
            Check.due("720 hours behind", x.inspect(0), 1);
            Check.due("COINS behind 720 hours", x.ofVillage(0, 0), 80);
            Edges.passTo(x, time + 1439);
            Check.due("719 hours behind the second", x.inspect(0), 0);
            x.pass(1);
            Check.due("720 hours behind the second", x.inspect(0), 1);
        }
    }

    @Holds(promise = 14, sentence = "unless the lamp was fined less than 720 hours ago")
    private static void inspectionsWithoutAFineDoNotCount() {
        NightValley x = withCoins(100);
        Check.due("lawful", x.inspect(0), 0);
        x.law(0, 24, NightValley.AMBER, 0);
        Check.due("unlawful", x.inspect(0), 1);
        Edges.addLamp(x, 0, 0, 10, NightValley.COLD, 0);
        Check.due("another lamp", x.inspect(0), 1);
        x.pass(500);
        x.inspect(0);
        x.pass(220);
        Check.due("both again", x.inspect(0), 2);
    }

    @Holds(promise = 14, sentence = "To inspect a ZONE fines the village of each lamp of that ZONE that is unlawful 10 COINS")
    private static void inspectFinesTheVillageOfTheLamp() {
        NightValley x = withCoins(100);
        x.village(1, 0);
        Edges.addLamp(x, 1, 1, 10, NightValley.COLD, 0);
        x.zone(1, 1);
        x.law(0, 24, NightValley.AMBER, 0);
        x.law(1, 24, NightValley.AMBER, 0);
        Check.due("ZONE 1", x.inspect(1), 1);
        Check.due("COINS of village 0", x.ofVillage(0, 0), 100);
        Check.due("COINS of village 1", x.ofVillage(1, 0), -10);
        Check.due("fines of village 0", x.ofVillage(0, 3), 0);
        Check.due("fines of village 1", x.ofVillage(1, 3), 10);
    }
}
