/** Promises 8 to 11, 21 and 22: village, lamp, hours, exempt, ofLamp, ofVillage. */
final class LampTest {
    public static void main(String[] args) {
        village();
        lamp();
        lampLimits();
        hours();
        hoursRefuses();
        exempt();
        lightAndAge();
        ofLamp();
        ofVillage();
        Check.end();
    }

    private static void village() {
        NightValley x = new NightValley();
        Check.refused("no households", Check.ARGUMENT, () -> x.village(0, 0));
        Check.refused("501 households", Check.ARGUMENT, () -> x.village(501, 0));
        Check.refused("COINS -1", Check.ARGUMENT, () -> x.village(1, -1));
        Check.refused("COINS 10001", Check.ARGUMENT, () -> x.village(1, 10001));
        for (int village = 0; village < 5; village++) {
            Check.due("village", x.village(village == 0 ? 1 : 500, 2500 * village), village);
        }
        Check.refused("a sixth village", Check.STATE, () -> x.village(1, 0));
        Check.refused("a sixth, out of range", Check.ARGUMENT, () -> x.village(0, 0));
        Check.due("COINS of the first", x.ofVillage(0, 0), 0);
        Check.due("COINS of the last", x.ofVillage(4, 0), 10000);
    }

    private static void lamp() {
        NightValley x = new NightValley();
        Check.refused("lamp of no village", Check.INDEX, () -> x.lamp(0, 0, 0, 0, 0));
        x.village(1, 0);
        Check.refused("village -1", Check.INDEX, () -> x.lamp(-1, 0, 1, 0, 0));
        Check.refused("village 1", Check.INDEX, () -> x.lamp(1, 0, 0, 3, 11));
        Check.refused("PLACE -1", Check.INDEX, () -> x.lamp(0, -1, 0, 0, 0));
        Check.refused("PLACE 64", Check.INDEX, () -> x.lamp(0, 64, 1, 0, 0));
        Check.refused("FLUX 0", Check.ARGUMENT, () -> x.lamp(0, 0, 0, 0, 0));
        Check.refused("FLUX 10001", Check.ARGUMENT, () -> x.lamp(0, 0, 10001, 0, 0));
        Check.refused("COLOUR -1", Check.ARGUMENT, () -> x.lamp(0, 0, 1, -1, 0));
        Check.refused("COLOUR 3", Check.ARGUMENT, () -> x.lamp(0, 0, 1, 3, 0));
        Check.refused("SHIELD -1", Check.ARGUMENT, () -> x.lamp(0, 0, 1, 0, -1));
        Check.refused("SHIELD 11", Check.ARGUMENT, () -> x.lamp(0, 0, 1, 0, 11));
        Check.due("no lamp yet", x.ofVillage(0, 1), 0);
        Check.due("the least lamp", x.lamp(0, 0, 1, NightValley.AMBER, 0), 0);
        Check.due("the greatest lamp", x.lamp(0, 63, 10000, NightValley.COLD, 10), 1);
        Check.due("two lamps", x.ofVillage(0, 1), 2);
        Check.due("LIGHT", x.ofLamp(1, 1), 10000);
        Check.due("SHIELD", x.ofLamp(1, 3), 10);
        Check.due("DIM at first", x.ofLamp(1, 4), 0);
        Check.due("AGE at first", x.ofLamp(1, 2), 0);
        Check.due("not BOUND at first", x.ofLamp(1, 5), 0);
        Check.due("not exempt at first", x.exempt(1, false), false);
    }

    private static void lampLimits() {
        NightValley x = new NightValley();
        for (int village = 0; village < 5; village++) {
            x.village(1, 0);
        }
        for (int lamp = 0; lamp < 10; lamp++) {
            Check.due("lamp of village 1", x.lamp(1, lamp, 1, 0, 0), lamp);
        }
        Check.refused("an eleventh of one village", Check.STATE, () -> x.lamp(1, 0, 1, 0, 0));
        Check.refused("an eleventh with no FLUX", Check.ARGUMENT, () -> x.lamp(1, 0, 0, 0, 0));
        Check.refused("an eleventh at no PLACE", Check.INDEX, () -> x.lamp(1, 64, 0, 0, 0));
        Check.due("ten lamps", x.ofVillage(1, 1), 10);
        for (int lamp = 10; lamp < 40; lamp++) {
            int village = lamp % 3 + 2;
            Check.due("lamp", x.lamp(village, lamp, 1, 0, 0), lamp);
        }
        Check.refused("a 41st lamp", Check.STATE, () -> x.lamp(0, 0, 1, 0, 0));
        Check.due("none of village 0", x.ofVillage(0, 1), 0);
    }

    private static void hours() {
        NightValley x = new NightValley();
        x.village(1, 0);
        x.lamp(0, 0, 1, 0, 0);
        int[][] spans = {{18, 6}, {6, 18}, {0, 23}, {23, 0}, {5, 5}, {0, 0}, {0, 1}, {23, 22}};
        for (int[] span : spans) {
            if (span[0] != 18) {
                x.hours(0, span[0], span[1]);
            }
            for (int hour = 0; hour < 24; hour++) {
                boolean is = span[0] == span[1];
                for (int step = span[0]; step % 24 != span[1]; step++) {
                    is |= step % 24 == hour;
                }
                Check.due("from " + span[0] + " to " + span[1] + " at " + hour, x.ofLamp(0, 0), is ? 1 : 0);
                x.pass(1);
            }
        }
    }

    private static void hoursRefuses() {
        NightValley x = new NightValley();
        x.village(1, 100);
        x.lamp(0, 0, 1, 0, 0);
        Check.refused("hours of lamp 1", Check.INDEX, () -> x.hours(1, 24, 0));
        Check.refused("hours of lamp -1", Check.INDEX, () -> x.hours(-1, 0, 0));
        Check.refused("from -1", Check.ARGUMENT, () -> x.hours(0, -1, 12));
        Check.refused("from 24", Check.ARGUMENT, () -> x.hours(0, 24, 12));
        Check.refused("to -1", Check.ARGUMENT, () -> x.hours(0, 12, -1));
        Check.refused("to 24", Check.ARGUMENT, () -> x.hours(0, 12, 24));
        x.vote(0, 1, 0, 1, 0);
        Check.refused("hours of a BOUND lamp", Check.STATE, () -> x.hours(0, 12, 13));
        Check.refused("a BOUND lamp, from 24", Check.ARGUMENT, () -> x.hours(0, 24, 13));
        Check.due("its hours are left", x.ofLamp(0, 0), 1);
        for (int i = 0; i < 17; i++) {
            x.pass(500);
        }
        x.pass(259);
        Check.refused("the last hour of it", Check.STATE, () -> x.hours(0, 12, 13));
        Check.due("one hour left", x.ofLamp(0, 5), 1);
        x.pass(1);
        Check.due("none left", x.ofLamp(0, 5), 0);
        x.hours(0, 12, 13);
        Check.due("told then", x.ofLamp(0, 0), 0);
    }

    private static void exempt() {
        NightValley x = new NightValley();
        x.village(1, 0);
        x.lamp(0, 0, 1, NightValley.COLD, 0);
        x.law(0, 18, NightValley.AMBER, 5);
        Check.due("curfew at HOUR 0", x.ofLamp(0, 0), 0);
        Check.due("unlawful", x.ofLamp(0, 6), 1);
        Check.due("exempt(0, true)", x.exempt(0, true), false);
        Check.due("exempt(0, true) again", x.exempt(0, true), true);
        Check.due("no curfew for it", x.ofLamp(0, 0), 1);
        Check.due("no law for it", x.ofLamp(0, 6), 0);
        x.pass(12);
        Check.due("its hours are as they were", x.ofLamp(0, 0), 0);
        Check.due("exempt(0, false)", x.exempt(0, false), true);
        Check.due("unlawful again", x.ofLamp(0, 6), 1);
        Check.refused("exempt(1)", Check.INDEX, () -> x.exempt(1, true));
        Check.refused("exempt(-1)", Check.INDEX, () -> x.exempt(-1, true));
    }

    private static void lightAndAge() {
        NightValley x = new NightValley();
        x.village(1, 100);
        x.lamp(0, 0, 777, 0, 0);
        x.hours(0, 0, 0);
        x.pass(99);
        Check.due("LIGHT at AGE 99", x.ofLamp(0, 1), 777);
        x.pass(1);
        Check.due("LIGHT at AGE 100", x.ofLamp(0, 1), 769);
        x.vote(0, 0, 3, 1, 0);
        Check.due("dimmed LIGHT", x.ofLamp(0, 1), 538);
        for (int time = 600; time <= 4600; time += 500) {
            x.pass(500);
        }
        x.pass(399);
        Check.due("AGE 4999", x.ofLamp(0, 2), 4999);
        Check.due("LIGHT at AGE 4999", x.ofLamp(0, 1), 396 * 7 / 10);
        x.pass(1);
        Check.due("LIGHT at AGE 5000", x.ofLamp(0, 1), 388 * 7 / 10);
        x.pass(500);
        Check.due("LIGHT at AGE 5500", x.ofLamp(0, 1), 388 * 7 / 10);
        x.outage(0, 10);
        x.pass(11);
        Check.due("AGE rests in an outage", x.ofLamp(0, 2), 5501);
    }

    private static void ofLamp() {
        NightValley x = new NightValley();
        x.village(4, 100);
        x.lamp(0, 0, 100, NightValley.WARM, 3);
        x.vote(0, 5, 4, 4, 0);
        x.pass(7);
        int[] due = {0, 60, 6, 5, 4, 8753, 0};
        for (int what = 0; what < due.length; what++) {
            Check.due("ofLamp(0, " + what + ")", x.ofLamp(0, what), due[what]);
        }
        x.law(0, 24, NightValley.WARM, 5);
        Check.due("just lawful", x.ofLamp(0, 6), 0);
        x.law(0, 24, NightValley.AMBER, 5);
        Check.due("COLOUR above the greatest", x.ofLamp(0, 6), 1);
        x.law(0, 24, NightValley.WARM, 6);
        Check.due("SHIELD below the least", x.ofLamp(0, 6), 1);
        Check.refused("ofLamp(1, 7)", Check.INDEX, () -> x.ofLamp(1, 7));
        Check.refused("ofLamp(-1, 0)", Check.INDEX, () -> x.ofLamp(-1, 0));
        Check.refused("ofLamp(0, 7)", Check.ARGUMENT, () -> x.ofLamp(0, 7));
        Check.refused("ofLamp(0, -1)", Check.ARGUMENT, () -> x.ofLamp(0, -1));
    }

    private static void ofVillage() {
        NightValley x = new NightValley();
        x.village(4, 15);
        x.village(4, 30);
        x.lamp(0, 0, 100, NightValley.WARM, 3);
        x.lamp(1, 0, 100, NightValley.WARM, 3);
        x.lamp(0, 0, 100, NightValley.COLD, 3);
        x.hours(2, 12, 13);
        x.law(0, 24, NightValley.AMBER, 0);
        x.inspect(0);
        int[] due = {-5, 2, 1, 20};
        int[] dueOther = {20, 1, 1, 10};
        for (int what = 0; what < due.length; what++) {
            Check.due("ofVillage(0, " + what + ")", x.ofVillage(0, what), due[what]);
            Check.due("ofVillage(1, " + what + ")", x.ofVillage(1, what), dueOther[what]);
        }
        x.hours(1, 12, 13);
        Check.due("one of village 0 BURNS", x.ofVillage(0, 2), 1);
        Check.due("none of village 1", x.ofVillage(1, 2), 0);
        Check.refused("ofVillage(2, 4)", Check.INDEX, () -> x.ofVillage(2, 4));
        Check.refused("ofVillage(-1, 0)", Check.INDEX, () -> x.ofVillage(-1, 0));
        Check.refused("ofVillage(0, 4)", Check.ARGUMENT, () -> x.ofVillage(0, 4));
        Check.refused("ofVillage(0, -1)", Check.ARGUMENT, () -> x.ofVillage(0, -1));
    }
}
