/** Promises 12 to 14: outage, vote, inspect. */
final class VillageTest {
    public static void main(String[] args) {
        outage();
        voteCounts();
        votePays();
        voteBinds();
        voteRefuses();
        inspect();
        inspectWhom();
        Check.end();
    }

    private static NightValley withVillage(int households, int coins) {
        NightValley x = new NightValley();
        x.village(households, coins);
        x.lamp(0, 0, 1000, NightValley.COLD, 0);
        return x;
    }

    private static void outage() {
        NightValley x = withVillage(1, 0);
        x.village(1, 0);
        x.lamp(1, 0, 1000, NightValley.COLD, 0);
        x.exempt(0, true);
        Check.due("outage(0, 2)", x.outage(0, 2), 0);
        Check.due("that of now with them", x.ofLamp(0, 0), 0);
        Check.due("not of another village", x.ofLamp(1, 0), 1);
        x.pass(1);
        Check.due("its last hour", x.ofLamp(0, 0), 0);
        Check.due("one left, in place of it", x.outage(0, 3), 1);
        x.pass(2);
        Check.due("still dark", x.ofLamp(0, 0), 0);
        x.pass(1);
        Check.due("light again", x.ofLamp(0, 0), 1);
        Check.due("AGE of hours with light", x.ofLamp(0, 2), 0);
        Check.due("none left", x.outage(0, 500), 0);
        Check.due("ended with 0", x.outage(0, 0), 500);
        Check.due("light at once", x.ofLamp(0, 0), 1);
        Check.refused("outage(2)", Check.INDEX, () -> x.outage(2, 501));
        Check.refused("outage(-1)", Check.INDEX, () -> x.outage(-1, 0));
        Check.refused("501 hours", Check.ARGUMENT, () -> x.outage(0, 501));
        Check.refused("-1 hours", Check.ARGUMENT, () -> x.outage(0, -1));
        Check.due("nothing by refused ones", x.outage(0, 0), 0);
    }

    private static void voteCounts() {
        NightValley x = withVillage(9, 1000);
        Check.due("4 of 9 are too few", x.vote(0, 1, 0, 4, 0), NightValley.NONE);
        Check.due("as many noes", x.vote(0, 1, 0, 4, 4), NightValley.NONE);
        Check.due("no yeses", x.vote(0, 1, 0, 0, 9), NightValley.NONE);
        Check.due("no votes", x.vote(0, 1, 0, 0, 0), NightValley.NONE);
        Check.due("more noes", x.vote(0, 1, 0, 4, 5), NightValley.NONE);
        Check.due("nothing is paid", x.ofVillage(0, 0), 1000);
        Check.due("nothing is raised", x.ofLamp(0, 3), 0);
        Check.due("nothing is BOUND", x.ofLamp(0, 5), 0);
        Check.due("5 of 9 will do", x.vote(0, 1, 0, 3, 2), 1);
        NightValley even = withVillage(8, 1000);
        Check.due("3 of 8 are too few", even.vote(0, 1, 0, 3, 0), NightValley.NONE);
        Check.due("4 of 8 will do", even.vote(0, 1, 0, 4, 0), 1);
        NightValley full = withVillage(500, 1000);
        Check.due("all of 500", full.vote(0, 1, 0, 251, 249), 1);
        NightValley all = withVillage(500, 1000);
        Check.due("500 yeses", all.vote(0, 0, 1, 500, 0), 2);
    }

    private static void votePays() {
        NightValley x = withVillage(1, 4);
        Check.due("5 of 4 COINS", x.vote(0, 2, 2, 1, 0), NightValley.NONE);
        Check.due("3 and 2, less 1: 2 of 4 COINS", x.vote(0, 0, 1, 1, 0), 2);
        Check.due("COINS left", x.ofVillage(0, 0), 2);
        x.lamp(0, 1, 10, 0, 9);
        Check.due("2 and 3, less 2: 3 of 2 COINS", x.vote(1, 10, 1, 1, 0), NightValley.NONE);
        Check.due("1 of 2 COINS", x.vote(1, 10, 0, 1, 0), 1);
        x.lamp(0, 1, 10, 0, 9);
        Check.due("1 of 1 COINS", x.vote(2, 10, 0, 1, 0), 1);
        Check.due("no COINS left", x.ofVillage(0, 0), 0);
        NightValley rich = withVillage(1, 10000);
        Check.due("all of both", rich.vote(0, 10, 10, 1, 0), 25);
        Check.due("SHIELD then", rich.ofLamp(0, 3), 10);
        Check.due("DIM then", rich.ofLamp(0, 4), 10);
        Check.due("LIGHT then", rich.ofLamp(0, 1), 0);
        NightValley twice = withVillage(1, 10000);
        twice.vote(0, 2, 3, 1, 0);
        for (int i = 0; i < 18; i++) {
            twice.pass(500);
        }
        Check.due("just what is raised: 5 SHIELD, 3 DIM", twice.vote(0, 7, 6, 1, 0), 10);
        NightValley fined = withVillage(1, 5);
        fined.law(0, 24, 0, 0);
        fined.inspect(0);
        Check.due("COINS below 0", fined.vote(0, 1, 0, 1, 0), NightValley.NONE);
    }

    private static void voteBinds() {
        NightValley x = withVillage(1, 1000);
        x.pass(10);
        x.vote(0, 1, 0, 1, 0);
        Check.due("BOUND for 365 days", x.ofLamp(0, 5), 8760);
        Check.refused("BOUND", Check.STATE, () -> x.vote(0, 2, 0, 1, 0));
        Check.refused("BOUND and lower", Check.ARGUMENT, () -> x.vote(0, 0, 1, 1, 0));
        Check.refused("BOUND and as it is", Check.STATE, () -> x.vote(0, 1, 0, 1, 0));
        for (int i = 0; i < 17; i++) {
            x.pass(500);
        }
        x.pass(259);
        Check.refused("BOUND to the last hour", Check.STATE, () -> x.vote(0, 2, 0, 1, 0));
        x.pass(1);
        Check.due("free again", x.vote(0, 2, 0, 1, 0), 1);
        Check.due("BOUND again", x.ofLamp(0, 5), 8760);
    }

    private static void voteRefuses() {
        NightValley x = withVillage(6, 1000);
        x.lamp(0, 0, 1, 0, 4);
        Check.refused("lamp 2", Check.INDEX, () -> x.vote(2, 11, 11, 501, 501));
        Check.refused("lamp -1", Check.INDEX, () -> x.vote(-1, 1, 0, 1, 0));
        Check.refused("SHIELD 11", Check.ARGUMENT, () -> x.vote(0, 11, 0, 4, 0));
        Check.refused("SHIELD -1", Check.ARGUMENT, () -> x.vote(0, -1, 1, 4, 0));
        Check.refused("DIM 11", Check.ARGUMENT, () -> x.vote(0, 1, 11, 4, 0));
        Check.refused("DIM -1", Check.ARGUMENT, () -> x.vote(0, 1, -1, 4, 0));
        Check.refused("yeses -1", Check.ARGUMENT, () -> x.vote(0, 1, 0, -1, 4));
        Check.refused("noes -1", Check.ARGUMENT, () -> x.vote(0, 1, 0, 4, -1));
        Check.refused("yeses 501", Check.ARGUMENT, () -> x.vote(0, 1, 0, 501, 0));
        Check.refused("noes 501", Check.ARGUMENT, () -> x.vote(0, 1, 0, 0, 501));
        Check.refused("greatest ints", Check.ARGUMENT,
            () -> x.vote(0, 1, 0, Integer.MAX_VALUE, Integer.MAX_VALUE));
        Check.refused("more than households", Check.ARGUMENT, () -> x.vote(0, 1, 0, 4, 3));
        Check.refused("a lower SHIELD", Check.ARGUMENT, () -> x.vote(1, 3, 1, 4, 0));
        Check.refused("neither is higher", Check.STATE, () -> x.vote(1, 4, 0, 4, 0));
        Check.refused("neither, and too many votes", Check.ARGUMENT, () -> x.vote(1, 4, 0, 4, 3));
        Check.due("COINS are left", x.ofVillage(0, 0), 1000);
        Check.due("all households", x.vote(1, 5, 0, 6, 0), 1);
    }

    private static void inspect() {
        NightValley x = withVillage(1, 30);
        x.law(0, 24, NightValley.WARM, 0);
        x.pass(5);
        Check.due("one lamp", x.inspect(0), 1);
        Check.due("10 COINS", x.ofVillage(0, 0), 20);
        Check.due("fined at once", x.inspect(0), 0);
        x.lamp(0, 1, 5, NightValley.COLD, 0);
        Check.due("just the new one", x.inspect(0), 1);
        x.pass(500);
        x.pass(219);
        Check.due("719 hours behind", x.inspect(0), 0);
        x.pass(1);
        Check.due("720 hours behind", x.inspect(0), 2);
        Check.due("COINS below 0", x.ofVillage(0, 0), -10);
        Check.due("all fines", x.ofVillage(0, 3), 40);
        Check.due("again at once", x.inspect(0), 0);
        Check.refused("ZONE 4", Check.INDEX, () -> x.inspect(4));
        Check.refused("ZONE -1", Check.INDEX, () -> x.inspect(-1));
    }

    private static void inspectWhom() {
        NightValley x = withVillage(1, 100);
        x.village(1, 100);
        x.lamp(1, 8, 5, NightValley.AMBER, 6);
        x.lamp(1, 9, 5, NightValley.AMBER, 7);
        x.lamp(1, 9, 5, NightValley.WARM, 7);
        x.lamp(1, 9, 5, NightValley.COLD, 0);
        x.exempt(4, true);
        x.zone(8, 1);
        x.zone(9, 1);
        x.law(0, 24, NightValley.AMBER, 7);
        x.law(1, 24, NightValley.AMBER, 7);
        Check.due("ZONE 1", x.inspect(1), 2);
        Check.due("no fine for village 0", x.ofVillage(0, 3), 0);
        Check.due("two for village 1", x.ofVillage(1, 3), 20);
        Check.due("ZONE 0", x.inspect(0), 1);
        Check.due("ZONE 2", x.inspect(2), 0);
        x.exempt(4, false);
        Check.due("exempt no more", x.inspect(1), 1);
        x.zone(0, 1);
        Check.due("fined in another ZONE", x.inspect(1), 0);
        Check.due("village 1", x.ofVillage(1, 0), 70);
        Check.due("village 0", x.ofVillage(0, 0), 90);
    }
}
