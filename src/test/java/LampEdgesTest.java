/** The edges of promises 10 and 21: hours, ofLamp, and of what a lamp is BOUND for. */
final class LampEdgesTest {
    public static void main(String[] args) {
        Edges.run(LampEdgesTest.class);
    }

    /** A lamp that a vote at this time binds. */
    private static NightValley withBoundLamp(int time) {
        NightValley x = Edges.withLamp(0, 10, 0, 0);
        Edges.passTo(x, time);
        x.vote(0, 1, 0, 50, 0);
        return x;
    }

    // ---- promise 10: hours

    @Holds(promise = 10, sentence = {"`lamp`: its number", "Throws `IndexOutOfBoundsException` if there is no such lamp"})
    private static void hoursTakesTheLampsThereAre() {
        NightValley x = Edges.withVillage(1, 0);
        Edges.refusesIndex("hours without a lamp", 0, lamp -> x.hours(lamp, 12, 13));
        Edges.addLamps(x, 0, 10);
        Edges.refusesIndex("hours of 10 lamps", 10, lamp -> x.hours(lamp, 12, 13));
        x.hours(0, 12, 13);
        x.hours(9, 12, 13);
        Check.due("hours of lamp 0", x.ofLamp(0, 0), 0);
        Check.due("hours of lamp 8", x.ofLamp(8, 0), 1);
        Check.due("hours of lamp 9", x.ofLamp(9, 0), 0);
    }

    @Holds(promise = 10, sentence = {"`from`: an HOUR, 0 to 23",
        "Throws `IllegalArgumentException` if from or to is out of range"})
    private static void hoursTakesFrom0And23() {
        NightValley x = Edges.withLamp(0, 10, 0, 0);
        Edges.refusesArgument("hours from", 0, 23, from -> x.hours(0, from, 12));
        x.hours(0, 0, 12);
        Check.due("from 0, at 0", x.ofLamp(0, 0), 1);
        x.hours(0, 23, 0);
        Check.due("from 23 to 0, at 0", x.ofLamp(0, 0), 0);
        x.pass(23);
        Check.due("from 23, at 23", x.ofLamp(0, 0), 1);
    }

    @Holds(promise = 10, sentence = {"`to`: an HOUR, 0 to 23",
        "Throws `IllegalArgumentException` if from or to is out of range"})
    private static void hoursTakesTo0And23() {
        NightValley x = Edges.withLamp(0, 10, 0, 0);
        Edges.refusesArgument("hours to", 0, 23, to -> x.hours(0, 12, to));
        x.hours(0, 12, 0);
        Check.due("to 0, at 0", x.ofLamp(0, 0), 0);
        x.hours(0, 0, 23);
        x.pass(22);
        Check.due("to 23, at 22", x.ofLamp(0, 0), 1);
        x.pass(1);
        Check.due("to 23, at 23", x.ofLamp(0, 0), 0);
    }

    private static boolean isWithin(int from, int to, int hour) {
        boolean is = from == to;
        for (int next = from; next != to; next = (next + 1) % 24) {
            is |= next == hour;
        }
        return is;
    }

    private static void checkHours(int[][] spans) {
        for (int[] span : spans) {
            NightValley x = Edges.withVillage(1, 0);
            x.lamp(0, 0, 10, 0, 0);
            x.hours(0, span[0], span[1]);
            for (int time = 0; time < 48; time++) {
                boolean due = isWithin(span[0], span[1], time % 24);
                Check.due("from " + span[0] + " to " + span[1] + " at " + time, x.ofLamp(0, 0), due ? 1 : 0);
                x.pass(1);
            }
        }
    }

    @Holds(promise = {10, 21}, sentence = "from a to b less 1, if a is below b")
    private static void hoursFromALowerToAHigher() {
        checkHours(new int[][] {{0, 1}, {0, 23}, {22, 23}, {6, 18}, {5, 6}, {1, 23}});
    }

    @Holds(promise = {10, 21}, sentence = "from a on or below b, if a is above b")
    private static void hoursFromAHigherToALower() {
        checkHours(new int[][] {{1, 0}, {23, 0}, {23, 22}, {18, 6}, {12, 11}, {6, 5}});
    }

    @Holds(promise = {10, 21}, sentence = "any HOUR, if both are the same")
    private static void hoursFromOneToTheSame() {
        checkHours(new int[][] {{0, 0}, {1, 1}, {12, 12}, {23, 23}});
    }

    @Holds(promise = 10, sentence = {"Throws `IllegalStateException` if it is BOUND",
        "it cannot be refitted, nor its hours be told"})
    private static void hoursOfABoundLampAreRefusedFor8760Hours() {
        for (int time : new int[] {0, 11}) {
            NightValley x = withBoundLamp(time);
            Check.refused("hours at once", Check.STATE, () -> x.hours(0, 12, 13));
            Check.refused("the same hours", Check.STATE, () -> x.hours(0, 0, 0));
            Edges.passTo(x, time + 8759);
            Check.refused("hours 8759 behind", Check.STATE, () -> x.hours(0, 12, 13));
            Check.due("its hours are left", x.ofLamp(0, 0), 1);
            x.pass(1);
            x.hours(0, (time + 2) % 24, (time + 3) % 24);
            Check.due("told 8760 behind", x.ofLamp(0, 0), 0);
        }
    }

    @Holds(promise = 10, sentence = {"Tells the hours of a lamp.", "Throws `IllegalStateException` if it is BOUND"})
    private static void hoursOfALampThatIsNotBoundAreTold() {
        NightValley x = withBoundLamp(0);
        Edges.addLamp(x, 0, 0, 10, 0, 0);
        x.vote(1, 1, 0, 0, 50);
        x.hours(1, 12, 13);
        Check.due("hours of another lamp, whose vote did not pass", x.ofLamp(1, 0), 0);
    }

    // ---- promise 21: ofLamp

    @Holds(promise = 21, sentence = {"`lamp`: its number", "Throws `IndexOutOfBoundsException` if there is no such lamp"})
    private static void ofLampTakesTheLampsThereAre() {
        NightValley x = new NightValley();
        Edges.addVillages(x, 4);
        Edges.refusesIndex("ofLamp without a lamp", 0, lamp -> x.ofLamp(lamp, 1));
        x.lamp(0, 0, 71, 0, 0);
        Edges.refusesIndex("ofLamp of 1 lamp", 1, lamp -> x.ofLamp(lamp, 1));
        for (int lamp = 1; lamp < 39; lamp++) {
            x.lamp(lamp % 4, 0, 1, 0, 0);
        }
        x.lamp(3, 0, 72, 0, 0);
        Edges.refusesIndex("ofLamp of 40 lamps", 40, lamp -> x.ofLamp(lamp, 1));
        Check.due("LIGHT of lamp 0", x.ofLamp(0, 1), 71);
        Check.due("LIGHT of lamp 39", x.ofLamp(39, 1), 72);
    }

    @Holds(promise = 21, sentence = {"Tells something of a lamp.", "Returns the number.",
        "Throws `IllegalArgumentException` if what is out of range",
        "`what`: 0 whether it BURNS now (1 or 0), 1 its LIGHT, 2 its AGE, 3 its SHIELD, 4 its DIM, "
            + "5 for how many hours from now it is BOUND, 6 whether it is unlawful (1 or 0)"})
    private static void ofLampTakesWhat0To6() {
        NightValley x = Edges.withLamp(0, 1000, NightValley.COLD, 3);
        Edges.refusesArgument("ofLamp", 0, 6, what -> x.ofLamp(0, what));
        x.vote(0, 7, 2, 50, 0);
        x.law(0, 24, NightValley.WARM, 0);
        x.pass(105);
        int[] due = {1, 792, 105, 7, 2, 8655, 1};
        for (int what = 0; what < 7; what++) {
            Check.due("ofLamp(0, " + what + ")", x.ofLamp(0, what), due[what]);
        }
    }

    @Holds(promise = 21, sentence = {"5 for how many hours from now it is BOUND",
        "the lamp is BOUND for 365 days: from then on, as long as the time is less than 8760 hours behind that"})
    private static void ofLampTells8760To0HoursBound() {
        for (int time : new int[] {0, 300}) {
            NightValley x = withBoundLamp(time);
            Check.due("at once", x.ofLamp(0, 5), 8760);
            x.pass(1);
            Check.due("1 hour behind", x.ofLamp(0, 5), 8759);
            Edges.passTo(x, time + 8759);
            Check.due("8759 hours behind", x.ofLamp(0, 5), 1);
            x.pass(1);
            Check.due("8760 hours behind", x.ofLamp(0, 5), 0);
            x.pass(1);
            Check.due("8761 hours behind", x.ofLamp(0, 5), 0);
        }
    }

    @Holds(promise = 21, sentence = "and its COLOUR is above the greatest one of its ZONE")
    private static void ofLampTellsTheColourAboveTheGreatest() {
        for (int colour = 0; colour < 3; colour++) {
            NightValley x = Edges.withLamp(0, 10, colour, 5);
            for (int greatest = 0; greatest < 3; greatest++) {
                x.law(0, 24, greatest, 5);
                Check.due("COLOUR " + colour + " by " + greatest, x.ofLamp(0, 6), colour > greatest ? 1 : 0);
            }
        }
    }

    @Holds(promise = 21, sentence = "or its SHIELD below the least one")
    private static void ofLampTellsTheShieldBelowTheLeast() {
        for (int shield : new int[] {0, 5, 10}) {
            NightValley x = Edges.withLamp(0, 10, NightValley.AMBER, shield);
            for (int least = 0; least <= 10; least++) {
                x.law(0, 24, NightValley.AMBER, least);
                Check.due("SHIELD " + shield + " by " + least, x.ofLamp(0, 6), shield < least ? 1 : 0);
            }
        }
        NightValley x = Edges.withLamp(0, 10, NightValley.AMBER, 5);
        x.law(0, 24, NightValley.AMBER, 6);
        x.vote(0, 6, 0, 50, 0);
        Check.due("refitted to the least", x.ofLamp(0, 6), 0);
    }

    @Holds(promise = 21, sentence = "A lamp is unlawful, if it is not exempt")
    private static void ofLampTellsNoExemptLampUnlawful() {
        NightValley x = Edges.withLamp(0, 10, NightValley.COLD, 0);
        x.law(0, 24, NightValley.AMBER, 10);
        Check.due("both against the law", x.ofLamp(0, 6), 1);
        x.exempt(0, true);
        Check.due("exempt", x.ofLamp(0, 6), 0);
        x.exempt(0, false);
        Check.due("not exempt", x.ofLamp(0, 6), 1);
    }

    @Holds(promise = 21, sentence = "2 its AGE")
    private static void ofLampTellsTheGreatestAge() {
        NightValley x = Edges.withLamp(0, 10000, 0, 0);
        Check.due("AGE at first", x.ofLamp(0, 2), 0);
        Edges.passTo(x, 20000);
        Check.due("AGE at last", x.ofLamp(0, 2), 20000);
        Check.due("LIGHT at last", x.ofLamp(0, 1), 5000);
    }
}
