import java.util.ArrayList;
import java.util.List;
import java.util.function.Consumer;
import java.util.function.LongSupplier;

/**
 * "A call that throws an exception changes nothing" and "Questions change nothing", for each promise: two valleys are
 * told the same, one of them is also asked for what it refuses, and both must answer alike from then on.
 */
final class RefusedEdgesTest {
    private static final String NOTHING = "A call that throws an exception changes nothing.";
    private static final String QUESTIONS = "Questions change nothing.";

    private static final int MIN = Integer.MIN_VALUE;
    private static final int MAX = Integer.MAX_VALUE;

    public static void main(String[] args) {
        Edges.run(RefusedEdgesTest.class);
    }

    // ---- valleys to begin with

    /** The lamp 0 is BOUND, the lamp 1 is not; one audit did not succeed; the village 1 has an outage. */
    private static void tellSome(NightValley x) {
        x.ridge(1, true);
        x.zone(9, 1);
        x.law(1, 20, NightValley.WARM, 4);
        x.feast(1, 1);
        x.village(100, 50);
        x.village(9, 5);
        x.lamp(0, 0, 1000, NightValley.COLD, 3);
        x.lamp(1, 9, 500, NightValley.AMBER, 5);
        x.vote(0, 5, 1, 60, 0);
        x.meter(8, 5, 1);
        x.read(0);
        x.audit(0);
        x.satellite(7, 3);
        x.air(NightValley.DUSTY);
        x.pass(18);
        x.read(0);
        x.outage(1, 20);
    }

    private static void tellMost(NightValley x) {
        for (int village = 0; village < 5; village++) {
            x.village(10, 100);
        }
        for (int lamp = 0; lamp < 40; lamp++) {
            x.lamp(lamp % 4, lamp, 100 + lamp, lamp % 3, lamp % 10);
        }
        for (int i = 0; i < 8; i++) {
            x.meter(i, i, i % 3);
        }
        for (int i = 0; i < 10; i++) {
            x.satellite(10, i);
        }
        for (int i = 0; i < 10; i++) {
            x.read(i % 8);
        }
    }

    /** Ten lamps of one village, so that it alone has no room for more. */
    private static void tellTenLamps(NightValley x) {
        tellSome(x);
        for (int lamp = 0; lamp < 9; lamp++) {
            x.lamp(1, lamp, 100, lamp % 3, lamp % 10);
        }
    }

    private static void tellTo19900(NightValley x) {
        tellSome(x);
        Edges.passTo(x, 19900);
    }

    private static void tellTo20000(NightValley x) {
        tellSome(x);
        Edges.passTo(x, 20000);
    }

    // ---- what is asked of both

    private interface Asked {
        void of(NightValley x, List<Long> answers);
    }

    private static void add(List<Long> answers, LongSupplier call) {
        long answer;
        try {
            answer = call.getAsLong();
        } catch (IndexOutOfBoundsException thrown) {
            answer = Long.MIN_VALUE;
        } catch (IllegalArgumentException thrown) {
            answer = Long.MIN_VALUE + 1;
        } catch (IllegalStateException thrown) {
            answer = Long.MIN_VALUE + 2;
        }
        answers.add(answer);
    }

    private static void askLamps(NightValley x, List<Long> answers) {
        add(answers, x::time);
        for (int i = 0; i < 40; i++) {
            int lamp = i;
            for (int j = 0; j < 7; j++) {
                int what = j;
                add(answers, () -> x.ofLamp(lamp, what));
            }
            add(answers, () -> x.exempt(lamp, false) ? 1 : 0);
        }
        for (int i = 0; i < 5; i++) {
            int village = i;
            for (int j = 0; j < 4; j++) {
                int what = j;
                add(answers, () -> x.ofVillage(village, what));
            }
            add(answers, () -> x.outage(village, 0));
        }
    }

    private static void askPlaces(NightValley x, List<Long> answers) {
        for (int i = 0; i < 64; i++) {
            int place = i;
            add(answers, () -> x.glow(place));
            add(answers, () -> x.ground(place));
            add(answers, () -> x.culprit(place));
            add(answers, () -> x.ridge(place, false) ? 1 : 0);
            add(answers, () -> x.zone(place, 0));
        }
        for (int i = 0; i < 4; i++) {
            int zone = i;
            add(answers, () -> x.feast(zone, 998));
        }
        add(answers, () -> x.air(NightValley.CLEAR));
    }

    private static void askMeters(NightValley x, List<Long> answers) {
        add(answers, () -> x.isHeld() ? 1 : 0);
        for (int i = 0; i < 8; i++) {
            int meter = i;
            for (int j = 0; j < 10; j++) {
                int reading = j;
                add(answers, () -> x.ofReading(meter, reading, 0));
                add(answers, () -> x.ofReading(meter, reading, 1));
                add(answers, () -> x.ofReading(meter, reading, 2));
            }
            add(answers, () -> x.trend(meter));
        }
        add(answers, () -> x.trails(0, 500));
        for (int limit : new int[] {0, 100000, 100000, 100000, 0, 0}) {
            add(answers, () -> x.audit(limit) ? 1 : 0);
            add(answers, () -> x.isHeld() ? 1 : 0);
        }
        for (int i = 0; i < 8; i++) {
            int meter = i;
            add(answers, () -> x.tell(meter, 0));
            add(answers, () -> x.read(meter));
        }
    }

    private static void askWhatIsNext(NightValley x, List<Long> answers) {
        for (int zone = 0; zone < 4; zone++) {
            int of = zone;
            add(answers, () -> x.inspect(of));
        }
        for (int hour = 0; hour < 50; hour++) {
            for (int lamp = 0; lamp < 2; lamp++) {
                int of = lamp;
                add(answers, () -> x.ofLamp(of, 0));
            }
            add(answers, () -> x.ofVillage(0, 2));
            add(answers, () -> x.ofVillage(1, 2));
            add(answers, () -> x.pass(1));
        }
        add(answers, () -> x.vote(1, 6, 2, 5, 0));
        add(answers, () -> x.ofVillage(1, 0));
        add(answers, () -> x.plan(1, 9, 10000));
        add(answers, () -> x.village(5, 6));
        add(answers, () -> x.lamp(0, 0, 1, 0, 0));
        add(answers, () -> x.lamp(1, 0, 1, 0, 0));
        add(answers, () -> x.meter(0, 0, 0));
        add(answers, () -> x.satellite(1, 0));
        add(answers, () -> x.trails(0, 500));
    }

    private static List<Asked> allAsked() {
        return List.of(RefusedEdgesTest::askLamps, RefusedEdgesTest::askPlaces, RefusedEdgesTest::askMeters,
            RefusedEdgesTest::askWhatIsNext);
    }

    private static void alike(String call, Consumer<NightValley> told, Consumer<NightValley> made) {
        for (Asked asked : allAsked()) {
            NightValley x = Edges.made(told);
            NightValley other = Edges.made(told);
            made.accept(x);
            List<Long> got = new ArrayList<>();
            List<Long> due = new ArrayList<>();
            asked.of(x, got);
            asked.of(other, due);
            for (int i = 0; i < due.size(); i++) {
                Check.due("answer " + i + " behind " + call, got.get(i), due.get(i));
            }
        }
    }

    private static void leaves(String call, Class<?> kind, Consumer<NightValley> told, Consumer<NightValley> made) {
        alike(call, told, x -> Check.refused(call, kind, () -> made.accept(x)));
    }

    private static void leavesByIndex(String call, Consumer<NightValley> made) {
        leaves(call, Check.INDEX, RefusedEdgesTest::tellSome, made);
    }

    private static void leavesByArgument(String call, Consumer<NightValley> made) {
        leaves(call, Check.ARGUMENT, RefusedEdgesTest::tellSome, made);
    }

    // ---- calls that change

    @Holds(promise = 2, sentence = NOTHING)
    private static void ridge() {
        for (int place : new int[] {-1, 64, MIN, MAX}) {
            leavesByIndex("ridge by place", x -> x.ridge(place, true));
        }
    }

    @Holds(promise = 3, sentence = NOTHING)
    private static void zone() {
        for (int bad : new int[] {-1, 64}) {
            leavesByIndex("zone by place", x -> x.zone(bad, 1));
        }
        for (int bad : new int[] {-1, 4, MAX}) {
            leavesByIndex("zone by zone", x -> x.zone(9, bad));
        }
    }

    @Holds(promise = 4, sentence = NOTHING)
    private static void law() {
        for (int bad : new int[] {-1, 4}) {
            leavesByIndex("law by zone", x -> x.law(bad, 18, NightValley.AMBER, 10));
        }
        for (int zone = 0; zone < 2; zone++) {
            int of = zone;
            leavesByArgument("law by curfew 17", x -> x.law(of, 17, NightValley.AMBER, 10));
            leavesByArgument("law by curfew 25", x -> x.law(of, 25, NightValley.AMBER, 10));
            leavesByArgument("law by colour -1", x -> x.law(of, 18, -1, 10));
            leavesByArgument("law by colour 3", x -> x.law(of, 18, 3, 10));
            leavesByArgument("law by shield -1", x -> x.law(of, 18, NightValley.AMBER, -1));
            leavesByArgument("law by shield 11", x -> x.law(of, 18, NightValley.AMBER, 11));
        }
    }

    @Holds(promise = 5, sentence = NOTHING)
    private static void feast() {
        leavesByIndex("feast by zone -1", x -> x.feast(-1, 0));
        leavesByIndex("feast by zone 4", x -> x.feast(4, 0));
        leavesByArgument("feast by day -1", x -> x.feast(1, -1));
        leavesByArgument("feast by day 1000", x -> x.feast(1, 1000));
    }

    @Holds(promise = 6, sentence = NOTHING)
    private static void air() {
        leavesByArgument("air(-1)", x -> x.air(-1));
        leavesByArgument("air(3)", x -> x.air(3));
    }

    @Holds(promise = 7, sentence = NOTHING)
    private static void pass() {
        for (int hours : new int[] {0, -1, 501, MIN, MAX}) {
            leavesByArgument("pass by hours", x -> x.pass(hours));
        }
        leaves("pass(101) at 19900", Check.STATE, RefusedEdgesTest::tellTo19900, x -> x.pass(101));
        leaves("pass(500) at 19900", Check.STATE, RefusedEdgesTest::tellTo19900, x -> x.pass(500));
        leaves("pass(1) at 20000", Check.STATE, RefusedEdgesTest::tellTo20000, x -> x.pass(1));
    }

    @Holds(promise = 8, sentence = NOTHING)
    private static void village() {
        leavesByArgument("village by households 0", x -> x.village(0, 5));
        leavesByArgument("village by households 501", x -> x.village(501, 5));
        leavesByArgument("village by coins -1", x -> x.village(5, -1));
        leavesByArgument("village by coins 10001", x -> x.village(5, 10001));
        leaves("a sixth village", Check.STATE, RefusedEdgesTest::tellMost, x -> x.village(5, 5));
    }

    @Holds(promise = 9, sentence = NOTHING)
    private static void lamp() {
        leavesByIndex("lamp by village 2", x -> x.lamp(2, 9, 100, 0, 0));
        leavesByIndex("lamp by village -1", x -> x.lamp(-1, 9, 100, 0, 0));
        leavesByIndex("lamp by place 64", x -> x.lamp(0, 64, 100, 0, 0));
        leavesByIndex("lamp by place -1", x -> x.lamp(0, -1, 100, 0, 0));
        leavesByArgument("lamp by flux 0", x -> x.lamp(0, 9, 0, 0, 0));
        leavesByArgument("lamp by flux 10001", x -> x.lamp(0, 9, 10001, 0, 0));
        leavesByArgument("lamp by colour -1", x -> x.lamp(0, 9, 100, -1, 0));
        leavesByArgument("lamp by colour 3", x -> x.lamp(0, 9, 100, 3, 0));
        leavesByArgument("lamp by shield -1", x -> x.lamp(0, 9, 100, 0, -1));
        leavesByArgument("lamp by shield 11", x -> x.lamp(0, 9, 100, 0, 11));
        leaves("a 41st lamp", Check.STATE, RefusedEdgesTest::tellMost, x -> x.lamp(4, 9, 100, 0, 0));
        leaves("an eleventh of a village", Check.STATE, RefusedEdgesTest::tellTenLamps, x -> x.lamp(1, 9, 100, 0, 0));
    }

    @Holds(promise = 10, sentence = NOTHING)
    private static void hours() {
        leavesByIndex("hours by lamp 2", x -> x.hours(2, 12, 13));
        leavesByIndex("hours by lamp -1", x -> x.hours(-1, 12, 13));
        for (int hour : new int[] {-1, 24}) {
            leavesByArgument("hours by from " + hour, x -> x.hours(1, hour, 12));
            leavesByArgument("hours by to " + hour, x -> x.hours(1, 12, hour));
        }
        leaves("hours of a BOUND lamp", Check.STATE, RefusedEdgesTest::tellSome, x -> x.hours(0, 12, 13));
    }

    @Holds(promise = 11, sentence = NOTHING)
    private static void exempt() {
        for (int lamp : new int[] {-1, 2, 40, MIN, MAX}) {
            leavesByIndex("exempt by lamp", x -> x.exempt(lamp, true));
        }
    }

    @Holds(promise = 12, sentence = NOTHING)
    private static void outage() {
        leavesByIndex("outage by village -1", x -> x.outage(-1, 5));
        leavesByIndex("outage by village 2", x -> x.outage(2, 5));
        for (int village = 0; village < 2; village++) {
            int of = village;
            leavesByArgument("outage by hours -1", x -> x.outage(of, -1));
            leavesByArgument("outage by hours 501", x -> x.outage(of, 501));
        }
    }

    @Holds(promise = 13, sentence = NOTHING)
    private static void vote() {
        leavesByIndex("vote by lamp 2", x -> x.vote(2, 6, 1, 9, 0));
        leavesByIndex("vote by lamp -1", x -> x.vote(-1, 6, 1, 9, 0));
        int[][] votes = {{11, 1, 9, 0}, {4, 1, 9, 0}, {-1, 1, 9, 0}, {6, 11, 9, 0}, {6, -1, 9, 0}, {6, 1, 501, 0},
            {6, 1, -1, 9}, {6, 1, 9, -1}, {6, 1, 9, 1}, {6, 1, 10, 0}, {6, 1, 6, 4}, {6, 1, 9, -4}};
        for (int[] vote : votes) {
            leavesByArgument("vote", x -> x.vote(1, vote[0], vote[1], vote[2], vote[3]));
        }
        leaves("vote on a BOUND lamp", Check.STATE, RefusedEdgesTest::tellSome, x -> x.vote(0, 7, 2, 60, 0));
        leaves("vote on what the lamp has", Check.STATE, RefusedEdgesTest::tellSome, x -> x.vote(1, 5, 0, 9, 0));
    }

    @Holds(promise = 14, sentence = NOTHING)
    private static void inspect() {
        for (int zone : new int[] {-1, 4, MIN, MAX}) {
            leavesByIndex("inspect by zone", x -> x.inspect(zone));
        }
    }

    @Holds(promise = 15, sentence = NOTHING)
    private static void meter() {
        leavesByIndex("meter by place -1", x -> x.meter(-1, 1, 1));
        leavesByIndex("meter by place 64", x -> x.meter(64, 1, 1));
        leavesByArgument("meter by zero -51", x -> x.meter(9, -51, 1));
        leavesByArgument("meter by zero 51", x -> x.meter(9, 51, 1));
        leavesByArgument("meter by drift -4", x -> x.meter(9, 1, -4));
        leavesByArgument("meter by drift 4", x -> x.meter(9, 1, 4));
        leaves("a ninth meter", Check.STATE, RefusedEdgesTest::tellMost, x -> x.meter(9, 1, 1));
    }

    @Holds(promise = 16, sentence = NOTHING)
    private static void read() {
        for (int meter : new int[] {-1, 1, 8, MIN, MAX}) {
            leavesByIndex("read by meter", x -> x.read(meter));
        }
    }

    @Holds(promise = 17, sentence = NOTHING)
    private static void tell() {
        leavesByIndex("tell by meter -1", x -> x.tell(-1, 5));
        leavesByIndex("tell by meter 1", x -> x.tell(1, 5));
        leavesByArgument("tell by zero -5001", x -> x.tell(0, -5001));
        leavesByArgument("tell by zero 5001", x -> x.tell(0, 5001));
    }

    @Holds(promise = 18, sentence = NOTHING)
    private static void audit() {
        leavesByArgument("audit(-1)", x -> x.audit(-1));
        leavesByArgument("audit(100001)", x -> x.audit(100001));
        leaves("audit(100001) behind two that succeed", Check.ARGUMENT, x -> {
            tellSome(x);
            x.audit(0);
            x.audit(100000);
            x.audit(100000);
        }, x -> x.audit(100001));
    }

    @Holds(promise = 19, sentence = NOTHING)
    private static void satellite() {
        leavesByArgument("satellite by period 0", x -> x.satellite(0, 0));
        leavesByArgument("satellite by period 101", x -> x.satellite(101, 0));
        leavesByArgument("satellite by phase -1", x -> x.satellite(7, -1));
        leavesByArgument("satellite by phase 7", x -> x.satellite(7, 7));
        leaves("an eleventh satellite", Check.STATE, RefusedEdgesTest::tellMost, x -> x.satellite(7, 3));
    }

    // ---- questions, those that are refused with them

    private static void asks(String call, LongAsked question) {
        Consumer<NightValley> made = x -> add(new ArrayList<>(), () -> question.of(x));
        alike(call, RefusedEdgesTest::tellSome, made);
        alike(call, RefusedEdgesTest::tellMost, made);
    }

    private interface LongAsked {
        long of(NightValley x);
    }

    @Holds(promise = 20, sentence = QUESTIONS)
    private static void askedTime() {
        asks("time()", NightValley::time);
    }

    @Holds(promise = 21, sentence = {QUESTIONS, NOTHING})
    private static void askedOfLamp() {
        for (int what = -1; what <= 7; what++) {
            int of = what;
            asks("ofLamp(0, " + what + ")", x -> x.ofLamp(0, of));
        }
        asks("ofLamp(40, 0)", x -> x.ofLamp(40, 0));
    }

    @Holds(promise = 22, sentence = {QUESTIONS, NOTHING})
    private static void askedOfVillage() {
        for (int what = -1; what <= 4; what++) {
            int of = what;
            asks("ofVillage(1, " + what + ")", x -> x.ofVillage(1, of));
        }
        asks("ofVillage(5, 0)", x -> x.ofVillage(5, 0));
    }

    @Holds(promise = 23, sentence = {QUESTIONS, NOTHING})
    private static void askedGives() {
        asks("gives(0, 2)", x -> x.gives(0, 2));
        asks("gives(40, 2)", x -> x.gives(40, 2));
        asks("gives(0, 64)", x -> x.gives(0, 64));
    }

    @Holds(promise = 24, sentence = {QUESTIONS, NOTHING})
    private static void askedGlow() {
        asks("glow(2)", x -> x.glow(2));
        asks("glow(64)", x -> x.glow(64));
    }

    @Holds(promise = 25, sentence = {QUESTIONS, NOTHING})
    private static void askedGlowFrom() {
        asks("glowFrom(2, WEST)", x -> x.glowFrom(2, NightValley.WEST));
        asks("glowFrom(2, 5)", x -> x.glowFrom(2, 5));
        asks("glowFrom(64, WEST)", x -> x.glowFrom(64, NightValley.WEST));
    }

    @Holds(promise = 26, sentence = {QUESTIONS, NOTHING})
    private static void askedGround() {
        asks("ground(2)", x -> x.ground(2));
        asks("ground(64)", x -> x.ground(64));
    }

    @Holds(promise = 27, sentence = {QUESTIONS, NOTHING})
    private static void askedWay() {
        asks("way(0, 63, 100)", x -> x.way(0, 63, 100));
        asks("way(0, 63, -1)", x -> x.way(0, 63, -1));
        asks("way(0, 64, 100)", x -> x.way(0, 64, 100));
        NightValley x = Edges.made(RefusedEdgesTest::tellSome);
        int steps = x.way(2, 63, 200);
        x.way(63, 0, 100000);
        x.way(0, 0, 0);
        Check.due("way(2, 63, 200) again", x.way(2, 63, 200), steps);
    }

    @Holds(promise = 28, sentence = {QUESTIONS, NOTHING})
    private static void askedOfReading() {
        for (int what = -1; what <= 3; what++) {
            int of = what;
            asks("ofReading(0, 0, " + what + ")", x -> x.ofReading(0, 0, of));
        }
        asks("ofReading(0, 10, 0)", x -> x.ofReading(0, 10, 0));
        asks("ofReading(8, 0, 0)", x -> x.ofReading(8, 0, 0));
    }

    @Holds(promise = 29, sentence = {QUESTIONS, NOTHING})
    private static void askedTrend() {
        asks("trend(0)", x -> x.trend(0));
        asks("trend(8)", x -> x.trend(8));
    }

    @Holds(promise = 30, sentence = QUESTIONS)
    private static void askedIsHeld() {
        asks("isHeld()", x -> x.isHeld() ? 1 : 0);
    }

    @Holds(promise = 31, sentence = {QUESTIONS, NOTHING})
    private static void askedTrails() {
        asks("trails(0, 500)", x -> x.trails(0, 500));
        asks("trails(20001, 500)", x -> x.trails(20001, 500));
        asks("trails(0, 501)", x -> x.trails(0, 501));
    }

    @Holds(promise = 32, sentence = {QUESTIONS, NOTHING})
    private static void askedCulprit() {
        asks("culprit(2)", x -> x.culprit(2));
        asks("culprit(64)", x -> x.culprit(64));
    }

    @Holds(promise = 33, sentence = {QUESTIONS, NOTHING})
    private static void askedPlan() {
        asks("plan(1, 9, 10000)", x -> x.plan(1, 9, 10000));
        asks("plan(1, 9, 10001)", x -> x.plan(1, 9, 10001));
        asks("plan(1, 64, 100)", x -> x.plan(1, 64, 100));
        asks("plan(5, 9, 100)", x -> x.plan(5, 9, 100));
        NightValley x = Edges.made(RefusedEdgesTest::tellMost);
        int set = x.plan(1, 9, 40);
        x.plan(2, 9, 10000);
        x.plan(4, 9, 10000);
        Check.due("plan(1, 9, 40) again", x.plan(1, 9, 40), set);
    }
}
