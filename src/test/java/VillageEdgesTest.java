/** The edges of promises 8, 9, 11, 12 and 22: village, lamp, exempt, outage, ofVillage. */
final class VillageEdgesTest {
    public static void main(String[] args) {
        Edges.run(VillageEdgesTest.class);
    }

    // ---- promise 8: village

    @Holds(promise = 8, sentence = {"`households`: 1 to 500",
        "Throws `IllegalArgumentException` if households or coins is out of range"})
    private static void villageTakes1And500Households() {
        NightValley x = new NightValley();
        Edges.refusesArgument("households", 1, 500, households -> x.village(households, 0));
        Check.due("1 household", x.village(1, 100), 0);
        Check.due("500 households", x.village(500, 100), 1);
        x.lamp(0, 0, 1, 0, 0);
        x.lamp(1, 0, 1, 0, 0);
        Check.due("1 of 1", x.vote(0, 1, 0, 1, 0), 1);
        Check.due("249 of 500", x.vote(1, 1, 0, 249, 0), NightValley.NONE);
        Check.due("250 of 500", x.vote(1, 1, 0, 250, 0), 1);
    }

    @Holds(promise = 8, sentence = {"`coins`: 0 to 10000",
        "Throws `IllegalArgumentException` if households or coins is out of range"})
    private static void villageTakes0And10000Coins() {
        NightValley x = new NightValley();
        Edges.refusesArgument("coins", 0, 10000, coins -> x.village(1, coins));
        Check.due("0 COINS", x.village(1, 0), 0);
        Check.due("10000 COINS", x.village(1, 10000), 1);
        Check.due("COINS of 0", x.ofVillage(0, 0), 0);
        Check.due("COINS of 1", x.ofVillage(1, 0), 10000);
    }

    @Holds(promise = 8, sentence = {"Founds a village.", "Returns its number.",
        "Villages are numbered from 0, at most 5", "Throws `IllegalStateException` if there are 5"})
    private static void villageTakes5AndRefusesTheSixth() {
        NightValley x = new NightValley();
        for (int village = 0; village < 5; village++) {
            Check.due("village " + village, x.village(1, 10 * village), village);
        }
        Check.refused("a sixth village", Check.STATE, () -> x.village(1, 0));
        Check.refused("a sixth village again", Check.STATE, () -> x.village(500, 10000));
        for (int village = 0; village < 5; village++) {
            Check.due("COINS of village " + village, x.ofVillage(village, 0), 10 * village);
        }
    }

    // ---- promise 9: lamp

    @Holds(promise = 9, sentence = {"`village`: its number",
        "Throws `IndexOutOfBoundsException` if there is no such village or PLACE"})
    private static void lampTakesTheVillagesThereAre() {
        NightValley x = new NightValley();
        Edges.refusesIndex("lamp without a village", 0, village -> x.lamp(village, 0, 1, 0, 0));
        Edges.addVillages(x, 3);
        Edges.refusesIndex("lamp of 3 villages", 3, village -> x.lamp(village, 0, 1, 0, 0));
        Check.due("of village 0", x.lamp(0, 0, 1, 0, 0), 0);
        Check.due("of village 2", x.lamp(2, 0, 1, 0, 0), 1);
        Edges.addVillages(x, 2);
        Edges.refusesIndex("lamp of 5 villages", 5, village -> x.lamp(village, 0, 1, 0, 0));
        Check.due("of village 4", x.lamp(4, 0, 1, 0, 0), 2);
    }

    @Holds(promise = 9, sentence = {"`place`: 0 to 63",
        "Throws `IndexOutOfBoundsException` if there is no such village or PLACE"})
    private static void lampTakesPlaces0And63() {
        NightValley x = Edges.withVillage(1, 0);
        Edges.refusesIndex("lamp by place", 64, place -> x.lamp(0, place, 1, 0, 0));
        x.lamp(0, 0, 100, 0, 0);
        x.lamp(0, 63, 100, 0, 0);
        Check.due("lamp 0 is at 0", x.glowFrom(0, NightValley.OVERHEAD), 100);
        Check.due("lamp 1 is at 63", x.glowFrom(63, NightValley.OVERHEAD), 100);
    }

    @Holds(promise = 9, sentence = {"`flux`: 1 to 10000",
        "Throws `IllegalArgumentException` if flux, colour or shield is out of range"})
    private static void lampTakesFlux1And10000() {
        NightValley x = Edges.withVillage(1, 0);
        Edges.refusesArgument("flux", 1, 10000, flux -> x.lamp(0, 0, flux, 0, 0));
        x.lamp(0, 0, 1, 0, 0);
        x.lamp(0, 0, 10000, 0, 0);
        Check.due("LIGHT by FLUX 1", x.ofLamp(0, 1), 1);
        Check.due("LIGHT by FLUX 10000", x.ofLamp(1, 1), 10000);
    }

    @Holds(promise = 9, sentence = {"`colour`: AMBER to COLD",
        "Throws `IllegalArgumentException` if flux, colour or shield is out of range"})
    private static void lampTakesColours0To2() {
        NightValley x = Edges.withVillage(1, 0);
        Edges.refusesArgument("colour", 0, 2, colour -> x.lamp(0, 0, 1, colour, 0));
        for (int colour = 0; colour <= 2; colour++) {
            x.lamp(0, 0, 10, colour, 0);
            Check.due("COLOUR " + colour, x.gives(colour, 0), 10 << colour);
        }
    }

    @Holds(promise = 9, sentence = {"`shield`: 0 to 10",
        "Throws `IllegalArgumentException` if flux, colour or shield is out of range"})
    private static void lampTakesShields0To10() {
        NightValley x = Edges.withVillage(1, 0);
        Edges.refusesArgument("shield", 0, 10, shield -> x.lamp(0, 0, 1, 0, shield));
        x.lamp(0, 0, 10, 0, 0);
        x.lamp(0, 0, 10, 0, 10);
        Check.due("SHIELD 0", x.ofLamp(0, 3), 0);
        Check.due("SHIELD 10", x.ofLamp(1, 3), 10);
    }

    @Holds(promise = 9, sentence = "Throws `IllegalStateException` if there are 40, or 10 of the village")
    private static void lampTakes10OfAVillage() {
        NightValley x = new NightValley();
        Edges.addVillages(x, 2);
        Edges.addLamps(x, 1, 9);
        Check.due("the tenth of village 1", x.lamp(1, 0, 1, 0, 0), 9);
        Check.refused("an eleventh of village 1", Check.STATE, () -> x.lamp(1, 0, 1, 0, 0));
        Check.due("lamps of village 1", x.ofVillage(1, 1), 10);
        Check.due("the first of village 0", x.lamp(0, 0, 1, 0, 0), 10);
    }

    @Holds(promise = 9, sentence = {"Puts a lamp up.", "Returns its number.", "Lamps are numbered from 0, at most 40",
        "Throws `IllegalStateException` if there are 40, or 10 of the village"})
    private static void lampTakes40AndRefusesThe41st() {
        NightValley x = new NightValley();
        Edges.addVillages(x, 5);
        for (int lamp = 0; lamp < 40; lamp++) {
            Check.due("lamp " + lamp, x.lamp(lamp % 5, lamp, 1, 0, 0), lamp);
        }
        for (int village = 0; village < 5; village++) {
            int of = village;
            Check.due("lamps of village " + village, x.ofVillage(village, 1), 8);
            Check.refused("a 41st, of village " + village, Check.STATE, () -> x.lamp(of, 0, 1, 0, 0));
        }
        Edges.refusesIndex("ofLamp of 40", 40, lamp -> x.ofLamp(lamp, 0));
        Check.due("the last one", x.ofLamp(39, 1), 1);
    }

    @Holds(promise = 9, sentence = "a DIM, 0 to 10, 0 at first; it has hours from one HOUR to another one, 18 and 6 at first")
    private static void lampHasDim0AndHours18To6AtFirst() {
        NightValley x = Edges.withVillage(1, 0);
        x.lamp(0, 0, 10, 0, 0);
        Check.due("DIM", x.ofLamp(0, 4), 0);
        for (int time = 0; time < 48; time++) {
            int hour = time % 24;
            Check.due("at HOUR " + hour, x.ofLamp(0, 0), hour >= 18 || hour < 6 ? 1 : 0);
            x.pass(1);
        }
    }

    @Holds(promise = 9, sentence = "it is exempt, or not, as at first; its AGE is 0 at first")
    private static void lampIsNotExemptAndNewAtFirst() {
        NightValley x = Edges.withLamp(0, 10, 0, 0);
        x.exempt(0, true);
        x.pass(300);
        int late = Edges.addLamp(x, 0, 0, 10, NightValley.COLD, 0);
        Check.due("AGE", x.ofLamp(late, 2), 0);
        Check.due("LIGHT", x.ofLamp(late, 1), 10);
        Check.due("not BOUND", x.ofLamp(late, 5), 0);
        x.law(0, 24, NightValley.AMBER, 0);
        Check.due("unlawful, so not exempt", x.ofLamp(late, 6), 1);
        Check.due("fined at once", x.inspect(0), 1);
        Check.due("exempt", x.exempt(late, false), false);
    }

    // ---- promise 11: exempt

    @Holds(promise = 11, sentence = {"`lamp`: its number", "Throws `IndexOutOfBoundsException` if there is no such lamp"})
    private static void exemptTakesTheLampsThereAre() {
        NightValley x = Edges.withVillage(1, 0);
        Edges.refusesIndex("exempt without a lamp", 0, lamp -> x.exempt(lamp, true));
        Edges.addLamps(x, 0, 10);
        Edges.refusesIndex("exempt of 10 lamps", 10, lamp -> x.exempt(lamp, true));
        Check.due("exempt(0, true)", x.exempt(0, true), false);
        Check.due("exempt(9, true)", x.exempt(9, true), false);
        Check.due("exempt(8, true)", x.exempt(8, true), false);
    }

    @Holds(promise = 11, sentence = {"Makes a lamp exempt, or not.", "Returns whether it was."})
    private static void exemptAnswersWhatWas() {
        NightValley x = Edges.withLamp(0, 10, 0, 0);
        boolean was = false;
        for (boolean is : new boolean[] {true, true, false, false, true}) {
            Check.due("exempt(0, " + is + ")", x.exempt(0, is), was);
            was = is;
        }
    }

    @Holds(promise = 11, sentence = "`is`: whether it is exempt from now on")
    private static void exemptCountsFromNowOn() {
        NightValley x = Edges.withLamp(0, 10, NightValley.COLD, 0);
        x.law(0, 18, NightValley.AMBER, 1);
        for (boolean is : new boolean[] {false, true, false}) {
            x.exempt(0, is);
            Check.due("BURNS in the curfew", x.ofLamp(0, 0), is ? 1 : 0);
            Check.due("unlawful", x.ofLamp(0, 6), is ? 0 : 1);
        }
    }

    // ---- promise 12: outage

    @Holds(promise = 12, sentence = {"`village`: its number", "Throws `IndexOutOfBoundsException` if there is no such village"})
    private static void outageTakesTheVillagesThereAre() {
        NightValley x = new NightValley();
        Edges.refusesIndex("outage without a village", 0, village -> x.outage(village, 1));
        Edges.addVillages(x, 5);
        Edges.refusesIndex("outage of 5 villages", 5, village -> x.outage(village, 1));
        Check.due("outage(0, 5)", x.outage(0, 5), 0);
        Check.due("outage(4, 6)", x.outage(4, 6), 0);
        Check.due("left of village 0", x.outage(0, 0), 5);
        Check.due("left of village 3", x.outage(3, 0), 0);
        Check.due("left of village 4", x.outage(4, 0), 6);
    }

    @Holds(promise = 12, sentence = {"`hours`: 0 to 500", "Throws `IllegalArgumentException` if hours is out of range"})
    private static void outageTakes0And500Hours() {
        NightValley x = Edges.withLamp(0, 10, 0, 0);
        Edges.refusesArgument("outage", 0, 500, hours -> x.outage(0, hours));
        Check.due("outage(0, 500)", x.outage(0, 500), 0);
        x.pass(499);
        Check.due("hour 499 of 500", x.ofLamp(0, 0), 0);
        x.pass(1);
        Check.due("behind 500 hours", x.ofLamp(0, 0), 1);
        Check.due("outage(0, 0)", x.outage(0, 0), 0);
        Check.due("none by 0 hours", x.ofLamp(0, 0), 1);
    }

    @Holds(promise = 12, sentence = "Tells an outage of a village, from now on for so many hours, that of now with them (0: none)")
    private static void outageBeginsNow() {
        NightValley x = Edges.withLamp(0, 10, 0, 0);
        x.pass(7);
        x.outage(0, 1);
        Check.due("now", x.ofLamp(0, 0), 0);
        x.pass(1);
        Check.due("1 hour behind", x.ofLamp(0, 0), 1);
        x.outage(0, 3);
        for (int hour = 0; hour < 3; hour++) {
            Check.due("hour " + hour + " of 3", x.ofLamp(0, 0), 0);
            x.pass(1);
        }
        Check.due("3 hours behind", x.ofLamp(0, 0), 1);
        Check.due("AGE: but for the 4 hours", x.ofLamp(0, 2), 7);
    }

    @Holds(promise = 12, sentence = "in place of one that it has")
    private static void outageTakesThePlaceOfTheFormer() {
        NightValley x = Edges.withLamp(0, 10, 0, 0);
        x.outage(0, 100);
        Check.due("a shorter one", x.outage(0, 2), 100);
        x.pass(2);
        Check.due("behind it", x.ofLamp(0, 0), 1);
        x.outage(0, 2);
        Check.due("a longer one", x.outage(0, 5), 2);
        x.pass(4);
        Check.due("its last hour", x.ofLamp(0, 0), 0);
        Check.due("none in its place", x.outage(0, 0), 1);
        Check.due("no outage", x.ofLamp(0, 0), 1);
    }

    @Holds(promise = 12, sentence = "Returns how many hours of an outage were left.")
    private static void outageAnswersTheHoursLeft() {
        NightValley x = Edges.withVillage(1, 0);
        Check.due("none at first", x.outage(0, 500), 0);
        Check.due("all", x.outage(0, 10), 500);
        x.pass(1);
        Check.due("9 of 10", x.outage(0, 9), 9);
        x.pass(8);
        Check.due("the last", x.outage(0, 1), 1);
        x.pass(1);
        Check.due("just over", x.outage(0, 3), 0);
        x.pass(500);
        Check.due("long over", x.outage(0, 0), 0);
        Check.due("none", x.outage(0, 0), 0);
    }

    @Holds(promise = 12, sentence = "its village has no outage at that time")
    private static void outageIsOfItsVillageAlone() {
        NightValley x = Edges.withLamp(0, 10, 0, 0);
        x.village(1, 0);
        Edges.addLamp(x, 1, 0, 10, 0, 0);
        x.outage(1, 5);
        Check.due("lamp of village 0", x.ofLamp(0, 0), 1);
        Check.due("lamp of village 1", x.ofLamp(1, 0), 0);
        Edges.addLamp(x, 1, 0, 10, 0, 0);
        Check.due("a lamp put up in the outage", x.ofLamp(2, 0), 0);
    }

    // ---- promise 22: ofVillage

    @Holds(promise = 22, sentence = {"`village`: its number", "Throws `IndexOutOfBoundsException` if there is no such village"})
    private static void ofVillageTakesTheVillagesThereAre() {
        NightValley x = new NightValley();
        Edges.refusesIndex("ofVillage without a village", 0, village -> x.ofVillage(village, 0));
        x.village(1, 7);
        Edges.refusesIndex("ofVillage of 1 village", 1, village -> x.ofVillage(village, 0));
        Edges.addVillages(x, 3);
        x.village(1, 8);
        Edges.refusesIndex("ofVillage of 5 villages", 5, village -> x.ofVillage(village, 0));
        Check.due("COINS of village 0", x.ofVillage(0, 0), 7);
        Check.due("COINS of village 4", x.ofVillage(4, 0), 8);
    }

    @Holds(promise = 22, sentence = {"Tells something of a village.", "Returns the number.",
        "Throws `IllegalArgumentException` if what is out of range",
        "`what`: 0 its COINS, 1 how many lamps it has, 2 how many of these BURN now, 3 all COINS that it was fined"})
    private static void ofVillageTakesWhat0To3() {
        NightValley x = Edges.withLamp(0, 10, NightValley.COLD, 0);
        Edges.refusesArgument("ofVillage", 0, 3, what -> x.ofVillage(0, what));
        x.lamp(0, 0, 10, 0, 0);
        x.hours(1, 1, 2);
        x.law(0, 24, NightValley.WARM, 0);
        x.inspect(0);
        int[] due = {9990, 2, 1, 10};
        for (int what = 0; what < 4; what++) {
            Check.due("ofVillage(0, " + what + ")", x.ofVillage(0, what), due[what]);
        }
    }

    @Holds(promise = 22, sentence = "1 how many lamps it has, 2 how many of these BURN now")
    private static void ofVillageCountsNoneAndAllTen() {
        NightValley x = new NightValley();
        Edges.addVillages(x, 2);
        Check.due("no lamp", x.ofVillage(0, 1), 0);
        Check.due("none BURNS", x.ofVillage(0, 2), 0);
        Edges.addLamps(x, 0, 10);
        Check.due("ten lamps", x.ofVillage(0, 1), 10);
        Check.due("ten BURN", x.ofVillage(0, 2), 10);
        Check.due("no lamp of the other village", x.ofVillage(1, 1), 0);
        Check.due("none BURNS of the other village", x.ofVillage(1, 2), 0);
        x.pass(6);
        Check.due("none BURNS by day", x.ofVillage(0, 2), 0);
        Check.due("still ten lamps", x.ofVillage(0, 1), 10);
    }

    @Holds(promise = {14, 22}, sentence = "COINS may come below 0.")
    private static void ofVillageTellsCoinsBelow0() {
        NightValley x = Edges.withVillage(1, 9);
        for (int lamp = 0; lamp < 10; lamp++) {
            x.lamp(0, 0, 1, NightValley.COLD, 0);
        }
        x.law(0, 24, NightValley.AMBER, 0);
        Check.due("ten fined", x.inspect(0), 10);
        Check.due("COINS", x.ofVillage(0, 0), 9 - 100);
        Check.due("all COINS that it was fined", x.ofVillage(0, 3), 100);
        x.pass(500);
        x.pass(220);
        Check.due("ten fined again", x.inspect(0), 10);
        Check.due("COINS then", x.ofVillage(0, 0), 9 - 200);
        Check.due("all COINS that it was fined then", x.ofVillage(0, 3), 200);
    }
}
