/** The edges of promises 18 and 30: audit, isHeld. */
final class LabelEdgesTest {
    public static void main(String[] args) {
        Edges.run(LabelEdgesTest.class);
    }

    /** A meter whose READING has this corrected value. */
    private static NightValley withCorrected(int value) {
        NightValley x = new NightValley();
        x.meter(0, value, 0);
        x.read(0);
        return x;
    }

    /** Audits, + for one that succeeds and - for one that does not, and whether the label is held behind each. */
    private static void checkLabel(String audits, String held) {
        NightValley x = withCorrected(10);
        for (int i = 0; i < audits.length(); i++) {
            boolean succeeds = audits.charAt(i) == '+';
            Check.due("audit " + i + " of " + audits, x.audit(succeeds ? 10 : 9), succeeds);
            Check.due("label behind audit " + i + " of " + audits, x.isHeld(), held.charAt(i) == 'h');
        }
    }

    // ---- promise 18: audit

    @Holds(promise = 18, sentence = {"`limit`: 0 to 100000", "Throws `IllegalArgumentException` if limit is out of range"})
    private static void auditTakesLimits0And100000() {
        NightValley x = new NightValley();
        Edges.refusesArgument("audit", 0, 100000, x::audit);
        Check.due("audit(0)", x.audit(0), true);
        Check.due("audit(100000)", x.audit(100000), true);
    }

    @Holds(promise = 18, sentence = {"Audits the label.", "Returns whether the audit succeeds.", "of at most the limit"})
    private static void auditSucceedsAtTheLimit() {
        int[][] audits = {{0, 0, 1}, {1, 0, 0}, {-1, 0, 1}, {10, 9, 0}, {10, 10, 1}, {10, 11, 1}, {50, 49, 0}, {50, 50, 1}};
        for (int[] audit : audits) {
            NightValley x = withCorrected(audit[0]);
            Check.due(audit[0] + " by a limit of " + audit[1], x.audit(audit[1]), audit[2] == 1);
        }
    }

    @Holds(promise = 18, sentence = "of at most the limit")
    private static void auditByTheGreatestLimit() {
        NightValley x = Edges.withLamp(0, 10000, NightValley.COLD, 0);
        Edges.addLamp(x, 0, 0, 10000, NightValley.COLD, 0);
        Edges.addLamp(x, 0, 0, 10000, NightValley.WARM, 0);
        x.meter(0, 0, 0);
        x.read(0);
        Check.due("100000 by 100000", x.audit(100000), true);
        Check.due("100000 by 99999", x.audit(99999), false);
        x.meter(0, 1, 0);
        x.read(1);
        Check.due("100001 by 100000", x.audit(100000), false);
    }

    @Holds(promise = 18, sentence = "An audit by a limit succeeds, if each meter that has a READING")
    private static void auditPassesOverMetersWithoutAReading() {
        NightValley x = new NightValley();
        Check.due("no meter", x.audit(0), true);
        x.meter(0, 50, 0);
        x.meter(0, -50, 0);
        Check.due("no READING", x.audit(0), true);
        x.read(1);
        Check.due("a READING of the second", x.audit(0), true);
        x.read(0);
        Check.due("a READING of the first", x.audit(0), false);
    }

    @Holds(promise = 18, sentence = "each meter that has a READING")
    private static void auditLooksAtEachMeter() {
        for (int high = 0; high < 8; high++) {
            NightValley x = new NightValley();
            for (int meter = 0; meter < 8; meter++) {
                x.meter(0, meter == high ? 6 : 5, 0);
                x.read(meter);
            }
            Check.due("meter " + high + " is above 5", x.audit(5), false);
            Check.due("none is above 6", x.audit(6), true);
        }
    }

    @Holds(promise = 18, sentence = "has a corrected value of its latest one")
    private static void auditLooksAtTheLatestReading() {
        NightValley x = Edges.withLamp(0, 100, 0, 0);
        x.meter(0, 0, 0);
        for (int i = 0; i < 9; i++) {
            x.read(0);
        }
        Check.due("all are above", x.audit(99), false);
        x.outage(0, 1);
        x.read(0);
        Check.due("the tenth is 0", x.audit(0), true);
        x.read(0);
        Check.due("the eleventh is 0", x.audit(0), true);
        x.outage(0, 0);
        Check.due("the GLOW now does not matter", x.audit(0), true);
        x.read(0);
        Check.due("the twelfth is above", x.audit(99), false);
    }

    @Holds(promise = 18, sentence = "less the told zero as it is now")
    private static void auditCorrectsByTheZeroNow() {
        NightValley x = withCorrected(10);
        Check.due("10 by 9", x.audit(9), false);
        x.tell(0, 1);
        Check.due("9 by 9", x.audit(9), true);
        x.tell(0, -5000);
        Check.due("5010 by 5009", x.audit(5009), false);
        Check.due("5010 by 5010", x.audit(5010), true);
        x.tell(0, 5000);
        Check.due("below 0 by 0", x.audit(0), true);
    }

    @Holds(promise = 18, sentence = "less the moon of its time")
    private static void auditCorrectsByTheMoonOfTheReading() {
        NightValley x = new NightValley();
        x.meter(0, 3, 0);
        Edges.passTo(x, 15 * 24);
        x.read(0);
        Check.due("read in the moon, by 3", x.audit(3), true);
        x.pass(12);
        Check.due("by day, by 3", x.audit(3), true);
        Check.due("by day, by 2", x.audit(2), false);
    }

    // ---- promise 30: isHeld

    @Holds(promise = 30, sentence = {"Returns whether the label is held.", "The label is held or lost, held at first."})
    private static void labelIsHeldAtFirst() {
        NightValley x = withCorrected(10);
        Check.due("isHeld()", x.isHeld(), true);
        Check.due("isHeld() again", x.isHeld(), true);
    }

    @Holds(promise = 30, sentence = "The label is lost, as two audits, one behind the other, do not succeed")
    private static void labelIsLostByTwo() {
        checkLabel("--", "hl");
        checkLabel("---", "hll");
        checkLabel("-+-+-+-", "hhhhhhh");
        checkLabel("+-+--", "hhhhl");
        checkLabel("++++--", "hhhhhl");
    }

    @Holds(promise = 30, sentence = "it is held again, as three, one behind the other, succeed")
    private static void labelIsHeldAgainByThree() {
        checkLabel("--+++", "hlllh");
        checkLabel("--++-+++", "hllllllh");
        checkLabel("--+-++-+++", "hllllllllh");
        checkLabel("--++--+++", "hlllllllh");
        checkLabel("--+++--+++", "hlllhhlllh");
        checkLabel("--++++-+", "hlllhhhh");
    }

    @Holds(promise = 30, sentence = "audits are counted so whatever the label was")
    private static void labelCountsAuditsWhateverItWas() {
        checkLabel("--+++-", "hlllhh");
        checkLabel("+++--+++", "hhhhlllh");
        checkLabel("----+++", "hlllllh");
        checkLabel("-----+-+-++-+++", "hlllllllllllllh");
    }
}
