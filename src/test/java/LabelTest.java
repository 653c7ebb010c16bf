/** Promises 18 and 30: audit, isHeld. */
final class LabelTest {
    public static void main(String[] args) {
        withoutMeters();
        limits();
        follows();
        latestOfEachMeter();
        refuses();
        Check.end();
    }

    private static NightValley withMeter() {
        NightValley x = new NightValley();
        x.meter(0, 10, 0);
        x.read(0);
        return x;
    }

    private static void withoutMeters() {
        NightValley x = new NightValley();
        Check.due("no meter", x.audit(0), true);
        x.meter(0, 50, 0);
        Check.due("a meter without a READING", x.audit(0), true);
        x.read(0);
        Check.due("a meter with one", x.audit(0), false);
    }

    private static void limits() {
        NightValley x = withMeter();
        Check.due("audit(10)", x.audit(10), true);
        Check.due("audit(9)", x.audit(9), false);
        x.tell(0, 1);
        Check.due("the told zero as it is now", x.audit(9), true);
        x.tell(0, 5000);
        Check.due("below 0", x.audit(0), true);
        Check.due("audit(100000)", x.audit(100000), true);
    }

    /** Each sign is an audit: + succeeds, - does not; below it h held or l lost behind it. */
    private static void follows() {
        String[] audits = {"--+++", "-+-+--++-++++", "+++++--+++", "----+++--", "++--++++-+-"};
        String[] labels = {"hlllh", "hhhhhllllllhh", "hhhhhhlllh", "hlllllhhl", "hhhlllhhhhh"};
        for (int run = 0; run < audits.length; run++) {
            NightValley x = withMeter();
            for (int i = 0; i < audits[run].length(); i++) {
                boolean succeeds = audits[run].charAt(i) == '+';
                Check.due("audit " + i + " of " + audits[run], x.audit(succeeds ? 10 : 9), succeeds);
                Check.due("label behind audit " + i + " of " + audits[run], x.isHeld(), labels[run].charAt(i) == 'h');
            }
        }
    }

    private static void latestOfEachMeter() {
        NightValley x = new NightValley();
        x.village(1, 0);
        x.lamp(0, 0, 100, 0, 0);
        x.meter(0, 0, 0);
        x.meter(1, 0, 0);
        x.meter(2, 0, 0);
        x.read(0);
        x.outage(0, 500);
        x.read(0);
        Check.due("just the latest READING", x.audit(0), true);
        x.outage(0, 0);
        x.read(1);
        Check.due("each meter", x.audit(49), false);
        Check.due("each meter, 50", x.audit(50), true);
        x.read(0);
        Check.due("the first one again", x.audit(50), false);
    }

    private static void refuses() {
        NightValley x = withMeter();
        x.audit(9);
        Check.refused("limit -1", Check.ARGUMENT, () -> x.audit(-1));
        Check.refused("limit 100001", Check.ARGUMENT, () -> x.audit(100001));
        Check.due("refused ones do not count", x.isHeld(), true);
        x.audit(9);
        Check.due("the second one", x.isHeld(), false);
        x.audit(10);
        x.audit(10);
        Check.refused("limit -1", Check.ARGUMENT, () -> x.audit(-1));
        Check.due("still lost", x.isHeld(), false);
        x.audit(10);
        Check.due("the third one", x.isHeld(), true);
    }
}
