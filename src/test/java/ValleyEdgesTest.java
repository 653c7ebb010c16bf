/** The edges of promises 1 to 7 and 20: a new object, ridge, zone, law, feast, air, pass, time. */
final class ValleyEdgesTest {
    public static void main(String[] args) {
        Edges.run(ValleyEdgesTest.class);
    }

    // ---- promise 1: a new object

    @Holds(promise = 1, sentence = "A valley without villages and lamps, at the time 0.")
    private static void newIsEmpty() {
        NightValley x = new NightValley();
        Check.due("time()", x.time(), 0);
        Check.refused("ofVillage(0, 0)", Check.INDEX, () -> x.ofVillage(0, 0));
        Check.refused("ofLamp(0, 0)", Check.INDEX, () -> x.ofLamp(0, 0));
        Check.refused("plan(0, 0, 0)", Check.INDEX, () -> x.plan(0, 0, 0));
        Check.due("way(0, 63, 0)", x.way(0, 63, 0), 14);
        for (int place = 0; place < 64; place++) {
            Check.due("glow(" + place + ")", x.glow(place), 0);
            Check.due("ground(" + place + ")", x.ground(place), 0);
            Check.due("culprit(" + place + ")", x.culprit(place), NightValley.NONE);
        }
        for (int direction = 0; direction < 5; direction++) {
            Check.due("glowFrom(27, " + direction + ")", x.glowFrom(27, direction), 0);
        }
    }

    @Holds(promise = 1, sentence = {"Villages are numbered from 0", "Lamps are numbered from 0",
        "Meters are numbered from 0", "Satellites are numbered from 0"})
    private static void newNumbersFrom0() {
        NightValley x = new NightValley();
        Check.refused("read(0)", Check.INDEX, () -> x.read(0));
        Check.due("trails(0, 500)", x.trails(0, 500), 0);
        Check.due("village", x.village(1, 0), 0);
        Check.due("lamp", x.lamp(0, 0, 1, 0, 0), 0);
        Check.due("meter", x.meter(0, 0, 0), 0);
        Check.due("satellite", x.satellite(1, 0), 0);
    }

    @Holds(promise = 1, sentence = {"none is at first", "is of a ZONE, 0 to 3, 0 at first"})
    private static void newHasNoRidgeAndZone0() {
        NightValley x = new NightValley();
        for (int place = 0; place < 64; place++) {
            Check.due("ridge(" + place + ")", x.ridge(place, false), false);
            Check.due("zone(" + place + ")", x.zone(place, 0), 0);
        }
    }

    @Holds(promise = 1, sentence = "The air is CLEAR 0, DUSTY 1 or CLOUDY 2, CLEAR at first.")
    private static void newAirIsClear() {
        Check.due("air(CLOUDY)", new NightValley().air(NightValley.CLOUDY), NightValley.CLEAR);
        Check.due("a lamp gives once", Edges.withLamp(0, 10, 0, 0).gives(0, 0), 10);
    }

    @Holds(promise = 1, sentence = {"or 24, as at first, for none", "the greatest COLOUR, COLD at first",
        "the least SHIELD, 0 at first"})
    private static void newLawsAllowAll() {
        for (int zone = 0; zone < 4; zone++) {
            NightValley x = Edges.withLamp(0, 10, NightValley.COLD, 0);
            x.zone(0, zone);
            Check.due("unlawful in ZONE " + zone, x.ofLamp(0, 6), 0);
            for (int hour = 0; hour < 24; hour++) {
                Check.due("BURNS in ZONE " + zone + " at HOUR " + hour, x.ofLamp(0, 0), 1);
                x.pass(1);
            }
        }
    }

    @Holds(promise = 1, sentence = "A ZONE has feasts on days.")
    private static void newHasNoFeasts() {
        NightValley x = Edges.withLamp(0, 10, 0, 0);
        x.law(0, 18, NightValley.COLD, 0);
        Check.due("no feast on day 0", x.ofLamp(0, 0), 0);
        for (int zone = 0; zone < 4; zone++) {
            Check.due("the first feast of ZONE " + zone, x.feast(zone, 0), 1);
        }
    }

    @Holds(promise = 1, sentence = "The label is held or lost, held at first.")
    private static void newLabelIsHeld() {
        Check.due("isHeld()", new NightValley().isHeld(), true);
    }

    @Holds(promise = 1, sentence = "An object is used for at most 512 calls after it has been made")
    private static void answersThe512thCall() {
        NightValley x = Edges.withLamp(0, 10000, NightValley.COLD, 0);
        x.meter(0, 0, 0);
        for (int call = 4; call < 511; call++) {
            Check.due("call " + (call + 1), x.read(0), 40020);
        }
        Check.due("call 512", x.ofReading(0, 9, 1), 40020);
    }

    @Holds(promise = 1, sentence = "A valley without villages and lamps, at the time 0.")
    private static void newIsApartFromOthers() {
        NightValley other = Edges.withLamp(0, 10, 0, 0);
        other.ridge(1, true);
        other.zone(1, 2);
        other.feast(0, 0);
        other.air(NightValley.DUSTY);
        other.pass(5);
        NightValley x = new NightValley();
        Check.due("time()", x.time(), 0);
        Check.due("glow(0)", x.glow(0), 0);
        Check.due("ridge(1)", x.ridge(1, false), false);
        Check.due("zone(1)", x.zone(1, 0), 0);
        Check.due("feast(0, 1)", x.feast(0, 1), 1);
        Check.due("air(CLEAR)", x.air(NightValley.CLEAR), NightValley.CLEAR);
    }

    // ---- promise 2: ridge

    @Holds(promise = 2, sentence = {"`place`: 0 to 63", "Throws `IndexOutOfBoundsException` if there is no such PLACE"})
    private static void ridgeTakes0And63() {
        NightValley x = new NightValley();
        Edges.refusesIndex("ridge", 64, place -> x.ridge(place, true));
        Check.due("ridge(0, true)", x.ridge(0, true), false);
        Check.due("ridge(63, true)", x.ridge(63, true), false);
        Check.due("ridge(0, false)", x.ridge(0, false), true);
        Check.due("ridge(63, false)", x.ridge(63, false), true);
    }

    @Holds(promise = 2, sentence = {"Makes a PLACE RIDGE, or not.", "Returns whether it was."})
    private static void ridgeAnswersWhatWas() {
        NightValley x = new NightValley();
        boolean was = false;
        for (boolean is : new boolean[] {true, true, false, false, true}) {
            Check.due("ridge(5, " + is + ")", x.ridge(5, is), was);
            was = is;
        }
        Check.due("the PLACE beside it", x.ridge(6, false), false);
        Check.due("the PLACE below it", x.ridge(13, false), false);
    }

    @Holds(promise = 2, sentence = "`is`: whether it is RIDGE from now on")
    private static void ridgeCountsFromNowOn() {
        NightValley x = Edges.withLamp(0, 100, 0, 0);
        Check.due("open", x.gives(0, 2), 20);
        x.ridge(1, true);
        Check.due("SHADED", x.gives(0, 2), 10);
        x.ridge(1, true);
        Check.due("SHADED still", x.gives(0, 2), 10);
        x.ridge(1, false);
        Check.due("open again", x.gives(0, 2), 20);
    }

    // ---- promise 3: zone

    @Holds(promise = 3, sentence = {"`place`: 0 to 63", "Throws `IndexOutOfBoundsException` if there is no such PLACE or ZONE"})
    private static void zoneTakesPlaces0And63() {
        NightValley x = new NightValley();
        Edges.refusesIndex("zone by place", 64, place -> x.zone(place, 1));
        Check.due("zone(0, 1)", x.zone(0, 1), 0);
        Check.due("zone(63, 1)", x.zone(63, 1), 0);
        Check.due("zone(62, 0)", x.zone(62, 0), 0);
        Check.due("zone(63, 0)", x.zone(63, 0), 1);
    }

    @Holds(promise = 3, sentence = {"`zone`: 0 to 3", "Throws `IndexOutOfBoundsException` if there is no such PLACE or ZONE"})
    private static void zoneTakesZones0And3() {
        NightValley x = new NightValley();
        Edges.refusesIndex("zone by zone", 4, zone -> x.zone(7, zone));
        Check.refused("zone(64, 4)", Check.INDEX, () -> x.zone(64, 4));
        Check.due("zone(7, 3)", x.zone(7, 3), 0);
        Check.due("zone(7, 0)", x.zone(7, 0), 3);
    }

    @Holds(promise = 3, sentence = {"Tells the ZONE of a PLACE.", "Returns what it was."})
    private static void zoneAnswersWhatItWas() {
        NightValley x = new NightValley();
        int was = 0;
        for (int zone : new int[] {3, 1, 2, 2, 0, 3}) {
            Check.due("zone(9, " + zone + ")", x.zone(9, zone), was);
            was = zone;
        }
    }

    @Holds(promise = 3, sentence = "The ZONE of a lamp is that of its PLACE.")
    private static void zoneOfALampFollowsItsPlace() {
        NightValley x = Edges.withLamp(9, 10, NightValley.COLD, 0);
        x.law(3, 18, NightValley.AMBER, 0);
        Check.due("lawful in ZONE 0", x.ofLamp(0, 6), 0);
        Check.due("BURNS in ZONE 0", x.ofLamp(0, 0), 1);
        x.zone(9, 3);
        Check.due("unlawful in ZONE 3", x.ofLamp(0, 6), 1);
        Check.due("curfew of ZONE 3", x.ofLamp(0, 0), 0);
        x.zone(9, 0);
        x.zone(8, 3);
        Check.due("lawful again", x.ofLamp(0, 6), 0);
    }

    // ---- promise 4: law

    @Holds(promise = 4, sentence = {"`zone`: 0 to 3", "Throws `IndexOutOfBoundsException` if there is no such ZONE"})
    private static void lawTakesZones0And3() {
        NightValley x = Edges.withLamp(0, 10, NightValley.COLD, 0);
        Edges.refusesIndex("law", 4, zone -> x.law(zone, 24, NightValley.AMBER, 0));
        x.law(3, 24, NightValley.AMBER, 0);
        Check.due("the law of ZONE 3 in ZONE 0", x.ofLamp(0, 6), 0);
        x.zone(0, 3);
        Check.due("the law of ZONE 3", x.ofLamp(0, 6), 1);
        x.zone(0, 0);
        x.law(0, 24, NightValley.AMBER, 0);
        Check.due("the law of ZONE 0", x.ofLamp(0, 6), 1);
    }

    @Holds(promise = 4, sentence = {"`curfew`: 18 to 24",
        "Throws `IllegalArgumentException` if curfew, colour or shield is out of range"})
    private static void lawTakesCurfews18To24() {
        NightValley x = Edges.withLamp(0, 10, 0, 0);
        Edges.refusesArgument("curfew", 18, 24, curfew -> x.law(0, curfew, 0, 0));
        for (int curfew = 18; curfew <= 24; curfew++) {
            x.law(0, curfew, NightValley.COLD, 0);
            Check.due("curfew " + curfew + " at HOUR 0", x.ofLamp(0, 0), curfew == 24 ? 1 : 0);
        }
    }

    @Holds(promise = 4, sentence = {"`colour`: the greatest one, AMBER to COLD",
        "Throws `IllegalArgumentException` if curfew, colour or shield is out of range"})
    private static void lawTakesColours0To2() {
        NightValley x = Edges.withLamp(0, 10, NightValley.AMBER, 0);
        Edges.addLamp(x, 0, 0, 10, NightValley.WARM, 0);
        Edges.addLamp(x, 0, 0, 10, NightValley.COLD, 0);
        Edges.refusesArgument("colour", 0, 2, colour -> x.law(0, 24, colour, 0));
        for (int colour = 0; colour <= 2; colour++) {
            x.law(0, 24, colour, 0);
            for (int lamp = 0; lamp <= 2; lamp++) {
                Check.due("COLOUR " + lamp + " by the greatest " + colour, x.ofLamp(lamp, 6), lamp > colour ? 1 : 0);
            }
        }
    }

    @Holds(promise = 4, sentence = {"`shield`: the least one, 0 to 10",
        "Throws `IllegalArgumentException` if curfew, colour or shield is out of range"})
    private static void lawTakesShields0To10() {
        NightValley x = Edges.withLamp(0, 10, 0, 0);
        Edges.addLamp(x, 0, 0, 10, 0, 9);
        Edges.addLamp(x, 0, 0, 10, 0, 10);
        Edges.refusesArgument("shield", 0, 10, shield -> x.law(0, 24, 0, shield));
        x.law(0, 24, 0, 0);
        Check.due("SHIELD 0 by the least 0", x.ofLamp(0, 6), 0);
        x.law(0, 24, 0, 1);
        Check.due("SHIELD 0 by the least 1", x.ofLamp(0, 6), 1);
        x.law(0, 24, 0, 10);
        Check.due("SHIELD 9 by the least 10", x.ofLamp(1, 6), 1);
        Check.due("SHIELD 10 by the least 10", x.ofLamp(2, 6), 0);
    }

    @Holds(promise = 4, sentence = {"Tells the law of a ZONE.",
        "(So a curfew is from its HOUR to the end of the day, and from HOUR 0 to 5.)"})
    private static void lawsCurfewIsFromItsHourTo5() {
        for (int curfew = 18; curfew <= 24; curfew++) {
            NightValley x = Edges.withLamp(0, 10, 0, 0);
            x.law(0, curfew, NightValley.COLD, 0);
            for (int time = 0; time < 48; time++) {
                int hour = time % 24;
                boolean open = curfew == 24 || (hour >= 6 && hour < curfew);
                Check.due("curfew " + curfew + " at HOUR " + hour, x.ofLamp(0, 0), open ? 1 : 0);
                x.pass(1);
            }
        }
    }

    @Holds(promise = 4, sentence = "Tells the law of a ZONE.")
    private static void lawTakesThePlaceOfTheFormer() {
        NightValley x = Edges.withLamp(0, 10, NightValley.COLD, 5);
        x.law(0, 18, NightValley.AMBER, 6);
        Check.due("curfew", x.ofLamp(0, 0), 0);
        Check.due("unlawful", x.ofLamp(0, 6), 1);
        x.law(0, 24, NightValley.COLD, 5);
        Check.due("no curfew", x.ofLamp(0, 0), 1);
        Check.due("lawful", x.ofLamp(0, 6), 0);
    }

    // ---- promise 5: feast

    @Holds(promise = 5, sentence = {"`zone`: 0 to 3", "Throws `IndexOutOfBoundsException` if there is no such ZONE"})
    private static void feastTakesZones0And3() {
        NightValley x = new NightValley();
        Edges.refusesIndex("feast", 4, zone -> x.feast(zone, 0));
        Check.due("feast(0, 0)", x.feast(0, 0), 1);
        Check.due("feast(3, 0)", x.feast(3, 0), 1);
    }

    @Holds(promise = 5, sentence = {"`day`: 0 to 999", "Throws `IllegalArgumentException` if day is out of range"})
    private static void feastTakesDays0And999() {
        NightValley x = new NightValley();
        Edges.refusesArgument("feast", 0, 999, day -> x.feast(0, day));
        Check.due("feast(0, 999)", x.feast(0, 999), 1);
        Check.due("feast(0, 0)", x.feast(0, 0), 2);
    }

    @Holds(promise = 5, sentence = {"Tells a feast of a ZONE.", "Returns how many days of feasts the ZONE has."})
    private static void feastCountsUnlikeDaysOfItsZone() {
        NightValley x = new NightValley();
        for (int day = 0; day < 250; day++) {
            Check.due("feast(1, " + 4 * day + ")", x.feast(1, 4 * day), day + 1);
        }
        Check.due("the first day again", x.feast(1, 0), 250);
        Check.due("the last day again", x.feast(1, 996), 250);
        Check.due("another ZONE", x.feast(2, 0), 1);
        Check.due("one more", x.feast(1, 999), 251);
    }

    @Holds(promise = 5, sentence = "its ZONE has a feast on that day")
    private static void feastIsFromHour0To23() {
        NightValley x = Edges.withLamp(0, 10, 0, 0);
        x.law(0, 18, NightValley.COLD, 0);
        x.feast(0, 1);
        for (int time = 0; time < 72; time++) {
            boolean burns = time / 24 == 1 || (time % 24 >= 6 && time % 24 < 18);
            Check.due("at " + time, x.ofLamp(0, 0), burns ? 1 : 0);
            x.pass(1);
        }
    }

    @Holds(promise = 5, sentence = "the day is the time divided by 24")
    private static void feastOnTheFirstAndTheLastDay() {
        NightValley x = Edges.withLamp(0, 10, 0, 0);
        x.law(0, 18, NightValley.COLD, 0);
        x.feast(0, 0);
        Check.due("day 0", x.ofLamp(0, 0), 1);
        x.feast(0, 832);
        Edges.passTo(x, 832 * 24 - 1);
        Check.due("the hour ahead of day 832", x.ofLamp(0, 0), 0);
        x.pass(1);
        Check.due("the first hour of day 832", x.ofLamp(0, 0), 1);
        x.pass(23);
        Check.due("its last hour", x.ofLamp(0, 0), 1);
        x.pass(1);
        Check.due("the hour behind it", x.ofLamp(0, 0), 0);
        x.feast(0, 833);
        Check.due("day 833", x.ofLamp(0, 0), 1);
        Edges.passTo(x, 20000);
        Check.due("the last time", x.ofLamp(0, 0), 1);
    }

    // ---- promise 6: air

    @Holds(promise = 6, sentence = {"`air`: CLEAR to CLOUDY", "Throws `IllegalArgumentException` if air is out of range"})
    private static void airTakes0To2() {
        NightValley x = new NightValley();
        Edges.refusesArgument("air", 0, 2, x::air);
        Check.due("air(2)", x.air(2), 0);
        Check.due("air(0)", x.air(0), 2);
    }

    @Holds(promise = 6, sentence = {"Tells the air.", "Returns what it was."})
    private static void airAnswersWhatItWas() {
        NightValley x = new NightValley();
        int was = 0;
        for (int air : new int[] {1, 2, 2, 1, 0, 0, 2}) {
            Check.due("air(" + air + ")", x.air(air), was);
            was = air;
        }
    }

    // ---- promise 7: pass

    @Holds(promise = 7, sentence = {"`hours`: 1 to 500", "Throws `IllegalArgumentException` if hours is out of range"})
    private static void passTakes1And500() {
        NightValley x = new NightValley();
        Edges.refusesArgument("pass", 1, 500, x::pass);
        Check.due("pass(1)", x.pass(1), 1);
        Edges.refusesArgument("pass at 1", 1, 500, x::pass);
        Check.due("pass(500)", x.pass(500), 501);
    }

    @Holds(promise = 7, sentence = {"Lets hours pass.", "Returns the time then."})
    private static void passAnswersTheTime() {
        NightValley x = new NightValley();
        int time = 0;
        for (int hours : new int[] {1, 23, 24, 500, 2}) {
            time += hours;
            Check.due("pass(" + hours + ")", x.pass(hours), time);
            Check.due("time()", x.time(), time);
        }
    }

    @Holds(promise = 7, sentence = "Throws `IllegalStateException` if it would be above 20000")
    private static void passTakes20000AsTheLast() {
        for (int last : new int[] {1, 250, 500}) {
            NightValley x = new NightValley();
            Edges.passTo(x, 20000 - last);
            if (last < 500) {
                Check.refused("pass to 20001", Check.STATE, () -> x.pass(last + 1));
                Check.refused("pass(500)", Check.STATE, () -> x.pass(500));
            }
            Check.due("pass to 20000", x.pass(last), 20000);
            Check.refused("pass(1) at 20000", Check.STATE, () -> x.pass(1));
            Check.refused("pass(500) at 20000", Check.STATE, () -> x.pass(500));
        }
    }

    @Holds(promise = 7, sentence = "the AGE of each lamp that BURNS at the time ahead of it is 1 more")
    private static void passAgesByTheTimeAhead() {
        NightValley x = Edges.withVillage(1, 0);
        for (int lamp = 0; lamp < 4; lamp++) {
            x.lamp(0, lamp, 10, 0, 0);
        }
        x.hours(1, 0, 1);
        x.hours(2, 1, 2);
        x.hours(3, 23, 0);
        int[][] ages = {{1, 1, 0, 0}, {2, 1, 1, 0}, {3, 1, 1, 0}};
        for (int[] due : ages) {
            x.pass(1);
            for (int lamp = 0; lamp < 4; lamp++) {
                Check.due("AGE of lamp " + lamp + " at " + x.time(), x.ofLamp(lamp, 2), due[lamp]);
            }
        }
        x.pass(20);
        Check.due("at HOUR 23", x.ofLamp(3, 2), 0);
        x.pass(1);
        Check.due("behind HOUR 23", x.ofLamp(3, 2), 1);
    }

    @Holds(promise = 7, sentence = "With each hour that passes")
    private static void passOfManyHoursAgesByEach() {
        NightValley x = Edges.withVillage(1, 0);
        for (int lamp = 0; lamp < 4; lamp++) {
            Edges.addLamp(x, 0, lamp, 10, 0, 0);
        }
        x.hours(0, 18, 6);
        x.zone(1, 1);
        x.zone(2, 2);
        x.law(1, 18, NightValley.COLD, 0);
        x.law(2, 23, NightValley.COLD, 0);
        x.feast(1, 1);
        x.pass(500);
        // 500 hours are 20 days and the hours 0 to 19
        Check.due("from 18 to 6", x.ofLamp(0, 2), 20 * 12 + 8);
        Check.due("a curfew of 18, a feast on day 1", x.ofLamp(1, 2), 20 * 12 + 12 + 12);
        Check.due("a curfew of 23", x.ofLamp(2, 2), 20 * 17 + 14);
        Check.due("each hour", x.ofLamp(3, 2), 500);
        x.outage(0, 100);
        x.pass(500);
        Check.due("less an outage", x.ofLamp(3, 2), 900);
    }

    // ---- promise 20: time

    @Holds(promise = 20, sentence = {"Returns the time.", "The time is counted in hours, from 0"})
    private static void timeIsFrom0To20000() {
        NightValley x = new NightValley();
        Check.due("time() at first", x.time(), 0);
        x.pass(1);
        Check.due("time() behind an hour", x.time(), 1);
        Check.due("time() again", x.time(), 1);
        Edges.passTo(x, 20000);
        Check.due("the last time()", x.time(), 20000);
        Check.refused("pass(1)", Check.STATE, () -> x.pass(1));
        Check.due("the last time() still", x.time(), 20000);
    }
}
