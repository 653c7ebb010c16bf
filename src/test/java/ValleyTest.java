/** Promises 1 to 7 and 20: a new object, ridge, zone, law, feast, air, pass, time. */
final class ValleyTest {
    public static void main(String[] args) {
        newObject();
        ridge();
        zone();
        law();
        lawRefuses();
        feast();
        air();
        pass();
        Check.end();
    }

    private static NightValley withLamp() {
        NightValley x = new NightValley();
        x.village(10, 100);
        x.lamp(0, 0, 1000, NightValley.COLD, 0);
        return x;
    }

    private static void newObject() {
        NightValley x = new NightValley();
        Check.due("time", x.time(), 0);
        Check.due("isHeld", x.isHeld(), true);
        Check.refused("ofVillage without one", Check.INDEX, () -> x.ofVillage(0, 0));
        Check.refused("ofLamp without one", Check.INDEX, () -> x.ofLamp(0, 0));
        Check.refused("read without a meter", Check.INDEX, () -> x.read(0));
        Check.due("trails without satellites", x.trails(0, 500), 0);
        for (int place = 0; place < 64; place++) {
            Check.due("glow of a new valley", x.glow(place), 0);
            Check.due("ground of a new valley", x.ground(place), 0);
            Check.due("culprit of a new valley", x.culprit(place), NightValley.NONE);
            Check.due("ridge at first", x.ridge(place, false), false);
            Check.due("zone at first", x.zone(place, 0), 0);
        }
        Check.due("air at first", x.air(NightValley.CLEAR), NightValley.CLEAR);
        Check.due("two objects apart", new NightValley().village(1, 0), 0);
    }

    private static void ridge() {
        NightValley x = withLamp();
        Check.due("ridge(1, true)", x.ridge(1, true), false);
        Check.due("ridge(1, true) again", x.ridge(1, true), true);
        Check.due("behind the ridge", x.gives(0, 2), 400);
        Check.due("ridge(1, false)", x.ridge(1, false), true);
        Check.due("ridge(1, false) again", x.ridge(1, false), false);
        Check.due("without the ridge", x.gives(0, 2), 800);
        Check.due("ridge(63, true)", x.ridge(63, true), false);
        Check.due("ridge(0, true)", x.ridge(0, true), false);
        Check.refused("ridge(-1)", Check.INDEX, () -> x.ridge(-1, true));
        Check.refused("ridge(64)", Check.INDEX, () -> x.ridge(64, true));
    }

    private static void zone() {
        NightValley x = withLamp();
        x.law(3, 24, NightValley.AMBER, 0);
        Check.due("lawful in ZONE 0", x.ofLamp(0, 6), 0);
        Check.due("zone(0, 3)", x.zone(0, 3), 0);
        Check.due("unlawful in ZONE 3", x.ofLamp(0, 6), 1);
        Check.due("other places keep theirs", x.zone(1, 1), 0);
        Check.refused("zone(0, 4)", Check.INDEX, () -> x.zone(0, 4));
        Check.refused("zone(0, -1)", Check.INDEX, () -> x.zone(0, -1));
        Check.refused("zone(64, 0)", Check.INDEX, () -> x.zone(64, 0));
        Check.refused("zone(-1, 0)", Check.INDEX, () -> x.zone(-1, 0));
        Check.due("zone(0, 0) behind refused ones", x.zone(0, 0), 3);
        Check.due("lawful again", x.ofLamp(0, 6), 0);
    }

    private static void law() {
        NightValley x = withLamp();
        x.hours(0, 0, 0);
        x.law(0, 18, NightValley.COLD, 0);
        for (int time = 0; time < 48; time++) {
            int hour = time % 24;
            Check.due("curfew 18 at HOUR " + hour, x.ofLamp(0, 0), hour >= 6 && hour < 18 ? 1 : 0);
            x.pass(1);
        }
        x.law(0, 23, NightValley.COLD, 0);
        for (int hour = 0; hour < 24; hour++) {
            Check.due("curfew 23 at HOUR " + hour, x.ofLamp(0, 0), hour >= 6 && hour < 23 ? 1 : 0);
            x.pass(1);
        }
        x.law(0, 24, NightValley.COLD, 0);
        for (int hour = 0; hour < 24; hour++) {
            Check.due("no curfew at HOUR " + hour, x.ofLamp(0, 0), 1);
            x.pass(1);
        }
        x.law(0, 24, NightValley.WARM, 0);
        Check.due("COLD above WARM", x.ofLamp(0, 6), 1);
        x.law(0, 24, NightValley.COLD, 1);
        Check.due("shield below 1", x.ofLamp(0, 6), 1);
        x.law(0, 24, NightValley.COLD, 0);
        Check.due("as the law", x.ofLamp(0, 6), 0);
        x.law(1, 18, NightValley.AMBER, 10);
        Check.due("another ZONE's law", x.ofLamp(0, 6), 0);
    }

    private static void lawRefuses() {
        NightValley x = withLamp();
        x.hours(0, 0, 0);
        Check.refused("law of ZONE 4", Check.INDEX, () -> x.law(4, 17, 3, 11));
        Check.refused("law of ZONE -1", Check.INDEX, () -> x.law(-1, 18, 0, 0));
        Check.refused("curfew 17", Check.ARGUMENT, () -> x.law(0, 17, 0, 10));
        Check.refused("curfew 25", Check.ARGUMENT, () -> x.law(0, 25, 0, 10));
        Check.refused("COLOUR -1", Check.ARGUMENT, () -> x.law(0, 18, -1, 10));
        Check.refused("COLOUR 3", Check.ARGUMENT, () -> x.law(0, 18, 3, 10));
        Check.refused("SHIELD -1", Check.ARGUMENT, () -> x.law(0, 18, 0, -1));
        Check.refused("SHIELD 11", Check.ARGUMENT, () -> x.law(0, 18, 0, 11));
        Check.due("lawful behind refused laws", x.ofLamp(0, 6), 0);
        Check.due("no curfew behind refused laws", x.ofLamp(0, 0), 1);
    }

    private static void feast() {
        NightValley x = withLamp();
        x.hours(0, 0, 0);
        x.law(0, 18, NightValley.COLD, 0);
        Check.due("no feast yet", x.ofLamp(0, 0), 0);
        Check.due("feast(0, 1)", x.feast(0, 1), 1);
        Check.due("feast of another day", x.ofLamp(0, 0), 0);
        Check.due("the same day again", x.feast(0, 1), 1);
        Check.due("feast of another ZONE", x.feast(1, 0), 1);
        Check.due("does not matter here", x.ofLamp(0, 0), 0);
        x.zone(0, 1);
        x.law(1, 18, NightValley.COLD, 0);
        Check.due("it matters in its ZONE, on day 0", x.ofLamp(0, 0), 1);
        x.zone(0, 0);
        Check.due("feast(0, 999)", x.feast(0, 999), 2);
        x.pass(24);
        for (int hour = 0; hour < 24; hour++) {
            Check.due("feast at HOUR " + hour, x.ofLamp(0, 0), 1);
            x.pass(1);
        }
        Check.due("the day behind it", x.ofLamp(0, 0), 0);
        Check.refused("feast of ZONE 4", Check.INDEX, () -> x.feast(4, -1));
        Check.refused("feast of ZONE -1", Check.INDEX, () -> x.feast(-1, 1000));
        Check.refused("feast on day -1", Check.ARGUMENT, () -> x.feast(0, -1));
        Check.refused("feast on day 1000", Check.ARGUMENT, () -> x.feast(0, 1000));
        Check.due("feast(0, 0)", x.feast(0, 0), 3);
    }

    private static void air() {
        NightValley x = withLamp();
        Check.due("CLEAR", x.glow(0), 4000);
        Check.due("air(DUSTY)", x.air(NightValley.DUSTY), NightValley.CLEAR);
        Check.due("DUSTY", x.glow(0), 8000);
        Check.due("air(CLOUDY)", x.air(NightValley.CLOUDY), NightValley.DUSTY);
        Check.due("CLOUDY", x.glow(0), 20000);
        Check.refused("air(3)", Check.ARGUMENT, () -> x.air(3));
        Check.refused("air(-1)", Check.ARGUMENT, () -> x.air(-1));
        Check.due("air(CLEAR)", x.air(NightValley.CLEAR), NightValley.CLOUDY);
    }

    private static void pass() {
        NightValley x = withLamp();
        Check.refused("pass(0)", Check.ARGUMENT, () -> x.pass(0));
        Check.refused("pass(-1)", Check.ARGUMENT, () -> x.pass(-1));
        Check.refused("pass(501)", Check.ARGUMENT, () -> x.pass(501));
        Check.due("time behind refused ones", x.time(), 0);
        Check.due("pass(1)", x.pass(1), 1);
        Check.due("AGE of the hour ahead", x.ofLamp(0, 2), 1);
        Check.due("pass(499)", x.pass(499), 500);
        for (int time = 1000; time <= 19500; time += 500) {
            Check.due("pass(500)", x.pass(500), time);
        }
        Check.refused("pass beyond 20000", Check.STATE, () -> { x.pass(499); x.pass(2); });
        Check.due("time then", x.time(), 19999);
        int age = x.ofLamp(0, 2);
        Check.refused("pass(2) at 19999", Check.STATE, () -> x.pass(2));
        Check.refused("pass(0) at 19999", Check.ARGUMENT, () -> x.pass(0));
        Check.due("AGE is left", x.ofLamp(0, 2), age);
        Check.due("pass(1) at 19999", x.pass(1), 20000);
        Check.refused("pass(1) at 20000", Check.STATE, () -> x.pass(1));
        Check.refused("pass(501) at 20000", Check.ARGUMENT, () -> x.pass(501));
        Check.due("the last time", x.time(), 20000);
    }
}
