import java.math.BigInteger;
import java.util.ArrayList;
import java.util.HashSet;
import java.util.List;
import java.util.Set;
import java.util.TreeSet;

/**
 * The document once more, written apart from the program and in other ways (logs of what was told instead of
 * counters, plans that are tried out on the lamps, ways by widening rings): what random runs are held against.
 */
final class PlainValley {
    private final boolean[] ridges = new boolean[64];
    private final int[] zones = new int[64];
    private final int[][] laws = {{24, 2, 0}, {24, 2, 0}, {24, 2, 0}, {24, 2, 0}};
    private final List<Set<Integer>> feasts = new ArrayList<>();
    private final List<int[]> villages = new ArrayList<>(); // households, COINS, fined, outage from, outage hours
    private final List<int[]> lamps = new ArrayList<>();
    private final List<int[]> meters = new ArrayList<>();
    private final List<List<int[]>> readings = new ArrayList<>();
    private final List<int[]> satellites = new ArrayList<>();
    private final List<Boolean> audits = new ArrayList<>();
    private int time = 0;
    private int air = 0;

    private static final int VILLAGE = 0, PLACE = 1, FLUX = 2, COLOUR = 3, SHIELD = 4, DIM = 5, FROM = 6, TO = 7;
    private static final int EXEMPT = 8, AGE = 9, REFIT = 10, FINED = 11;

    PlainValley() {
        for (int zone = 0; zone < 4; zone++) {
            feasts.add(new TreeSet<>());
        }
    }

    long call(String name, int[] a) {
        switch (name) {
            case "ridge": return ridge(a[0], a[1] == 1);
            case "zone": return zone(a[0], a[1]);
            case "law": return law(a[0], a[1], a[2], a[3]);
            case "feast": return feast(a[0], a[1]);
            case "air": return air(a[0]);
            case "pass": return pass(a[0]);
            case "village": return village(a[0], a[1]);
            case "lamp": return lamp(a);
            case "hours": return hours(a[0], a[1], a[2]);
            case "exempt": return exempt(a[0], a[1] == 1);
            case "outage": return outage(a[0], a[1]);
            case "vote": return vote(a[0], a[1], a[2], a[3], a[4]);
            case "inspect": return inspect(a[0]);
            case "meter": return meter(a);
            case "read": return read(a[0]);
            case "tell": return tell(a[0], a[1]);
            case "audit": return audit(a[0]);
            case "satellite": return satellite(a[0], a[1]);
            case "time": return time;
            case "ofLamp": return ofLamp(a[0], a[1]);
            case "ofVillage": return ofVillage(a[0], a[1]);
            case "gives": return gives(a[0], a[1]);
            case "glow": return glow(a[0]);
            case "glowFrom": return glowFrom(a[0], a[1]);
            case "ground": return ground(a[0]);
            case "way": return way(a[0], a[1], a[2]);
            case "ofReading": return ofReading(a[0], a[1], a[2]);
            case "trend": return trend(a[0]);
            case "isHeld": return isHeld() ? 1 : 0;
            case "trails": return trails(a[0], a[1]);
            case "culprit": return culprit(a[0]);
            case "plan": return plan(a[0], a[1], a[2]);
            default: throw new AssertionError(name);
        }
    }

    private static void index(int number, int count) {
        if (number < 0 || number >= count) {
            throw new IndexOutOfBoundsException();
        }
    }

    private static void range(boolean within) {
        if (!within) {
            throw new IllegalArgumentException();
        }
    }

    private static void state(boolean allowed) {
        if (!allowed) {
            throw new IllegalStateException();
        }
    }

    private static boolean in(int number, int least, int most) {
        return least <= number && number <= most;
    }

    private long ridge(int place, boolean is) {
        index(place, 64);
        long was = ridges[place] ? 1 : 0;
        ridges[place] = is;
        return was;
    }

    private long zone(int place, int zone) {
        index(place, 64);
        index(zone, 4);
        long was = zones[place];
        zones[place] = zone;
        return was;
    }

    private long law(int zone, int curfew, int colour, int shield) {
        index(zone, 4);
        range(in(curfew, 18, 24) && in(colour, 0, 2) && in(shield, 0, 10));
        laws[zone] = new int[] {curfew, colour, shield};
        return 0;
    }

    private long feast(int zone, int day) {
        index(zone, 4);
        range(in(day, 0, 999));
        feasts.get(zone).add(day);
        return feasts.get(zone).size();
    }

    private long air(int told) {
        range(in(told, 0, 2));
        long was = air;
        air = told;
        return was;
    }

    private long pass(int hours) {
        range(in(hours, 1, 500));
        state(time + hours <= 20000);
        for (int end = time + hours; time < end; time++) {
            for (int[] lamp : lamps) {
                lamp[AGE] += burns(lamp) ? 1 : 0;
            }
        }
        return time;
    }

    private long village(int households, int coins) {
        range(in(households, 1, 500) && in(coins, 0, 10000));
        state(villages.size() < 5);
        villages.add(new int[] {households, coins, 0, 0, 0});
        return villages.size() - 1;
    }

    private long lampsOf(int village) {
        return lamps.stream().filter(lamp -> lamp[VILLAGE] == village).count();
    }

    private long lamp(int[] a) {
        index(a[0], villages.size());
        index(a[1], 64);
        range(in(a[2], 1, 10000) && in(a[3], 0, 2) && in(a[4], 0, 10));
        state(lamps.size() < 40 && lampsOf(a[0]) < 10);
        lamps.add(new int[] {a[0], a[1], a[2], a[3], a[4], 0, 18, 6, 0, 0, -8760, -720});
        return lamps.size() - 1;
    }

    private boolean bound(int[] lamp) {
        return time - lamp[REFIT] < 8760;
    }

    private long hours(int number, int from, int to) {
        index(number, lamps.size());
        range(in(from, 0, 23) && in(to, 0, 23));
        int[] lamp = lamps.get(number);
        state(!bound(lamp));
        lamp[FROM] = from;
        lamp[TO] = to;
        return 0;
    }

    private long exempt(int number, boolean is) {
        index(number, lamps.size());
        long was = lamps.get(number)[EXEMPT];
        lamps.get(number)[EXEMPT] = is ? 1 : 0;
        return was;
    }

    private boolean dark(int[] village, int when) {
        return when >= village[3] && when < village[3] + village[4];
    }

    private long outage(int number, int hours) {
        index(number, villages.size());
        range(in(hours, 0, 500));
        int[] village = villages.get(number);
        long left = 0;
        for (int when = time; dark(village, when); when++) {
            left++;
        }
        village[3] = time;
        village[4] = hours;
        return left;
    }

    private long vote(int number, int shield, int dim, int yeses, int noes) {
        index(number, lamps.size());
        int[] lamp = lamps.get(number);
        int[] village = villages.get(lamp[VILLAGE]);
        range(in(shield, 0, 10) && in(dim, 0, 10) && in(yeses, 0, 500) && in(noes, 0, 500));
        range(shield >= lamp[SHIELD] && dim >= lamp[DIM] && yeses + noes <= village[0]);
        state(!bound(lamp));
        state(shield != lamp[SHIELD] || dim != lamp[DIM]);
        int cost = 2 * (shield - lamp[SHIELD]) + 3 * (dim - lamp[DIM]);
        int subsidy = cost / 2;
        if (yeses <= noes || 2 * (yeses + noes) < village[0] || village[1] < cost - subsidy) {
            return -1;
        }
        lamp[SHIELD] = shield;
        lamp[DIM] = dim;
        lamp[REFIT] = time;
        village[1] -= cost - subsidy;
        return cost - subsidy;
    }

    private boolean unlawful(int[] lamp) {
        int[] law = laws[zones[lamp[PLACE]]];
        return lamp[EXEMPT] == 0 && (lamp[COLOUR] > law[1] || lamp[SHIELD] < law[2]);
    }

    private long inspect(int zone) {
        index(zone, 4);
        long fined = 0;
        for (int[] lamp : lamps) {
            if (zones[lamp[PLACE]] == zone && unlawful(lamp) && time - lamp[FINED] >= 720) {
                lamp[FINED] = time;
                villages.get(lamp[VILLAGE])[1] -= 10;
                villages.get(lamp[VILLAGE])[2] += 10;
                fined++;
            }
        }
        return fined;
    }

    private long meter(int[] a) {
        index(a[0], 64);
        range(in(a[1], -50, 50) && in(a[2], -3, 3));
        state(meters.size() < 8);
        meters.add(new int[] {a[0], a[1], a[2], 0});
        readings.add(new ArrayList<>());
        return meters.size() - 1;
    }

    private static int moon(int when) {
        int hour = when % 24;
        int day = when / 24 % 30;
        return hour >= 6 && hour <= 17 ? 0 : 4 * (day <= 15 ? day : 30 - day);
    }

    private long read(int number) {
        index(number, meters.size());
        int[] meter = meters.get(number);
        int value = (int) glow(meter[0]) + moon(time) + 20 + meter[1] + meter[2] * (time / 24);
        readings.get(number).add(new int[] {time, value});
        return value;
    }

    private List<int[]> kept(int number) {
        List<int[]> all = readings.get(number);
        return all.subList(Math.max(0, all.size() - 10), all.size());
    }

    private int corrected(int number, int[] reading) {
        return reading[1] - moon(reading[0]) - 20 - meters.get(number)[3];
    }

    private long tell(int number, int zero) {
        index(number, meters.size());
        range(in(zero, -5000, 5000));
        long was = meters.get(number)[3];
        meters.get(number)[3] = zero;
        return was;
    }

    private long audit(int limit) {
        range(in(limit, 0, 100000));
        boolean succeeds = true;
        for (int meter = 0; meter < meters.size(); meter++) {
            List<int[]> all = kept(meter);
            succeeds &= all.isEmpty() || corrected(meter, all.get(all.size() - 1)) <= limit;
        }
        audits.add(succeeds);
        return succeeds ? 1 : 0;
    }

    private boolean isHeld() {
        boolean held = true;
        for (int i = 1; i < audits.size(); i++) {
            if (!audits.get(i) && !audits.get(i - 1)) {
                held = false;
            }
            if (i > 1 && audits.get(i) && audits.get(i - 1) && audits.get(i - 2)) {
                held = true;
            }
        }
        return held;
    }

    private long satellite(int period, int phase) {
        range(in(period, 1, 100) && in(phase, 0, period - 1));
        state(satellites.size() < 10);
        satellites.add(new int[] {period, phase});
        return satellites.size() - 1;
    }

    private long ofLamp(int number, int what) {
        index(number, lamps.size());
        range(in(what, 0, 6));
        int[] lamp = lamps.get(number);
        long[] all = {burns(lamp) ? 1 : 0, light(lamp), lamp[AGE], lamp[SHIELD], lamp[DIM],
            bound(lamp) ? 8760 - (time - lamp[REFIT]) : 0, unlawful(lamp) ? 1 : 0};
        return all[what];
    }

    private long ofVillage(int number, int what) {
        index(number, villages.size());
        range(in(what, 0, 3));
        long burning = lamps.stream().filter(lamp -> lamp[VILLAGE] == number && burns(lamp)).count();
        long[] all = {villages.get(number)[1], lampsOf(number), burning, villages.get(number)[2]};
        return all[what];
    }

    private boolean burns(int[] lamp) {
        int hour = time % 24;
        Set<Integer> hours = new HashSet<>();
        hours.add(lamp[FROM]);
        for (int next = (lamp[FROM] + 1) % 24; next != lamp[TO] && hours.size() < 24; next = (next + 1) % 24) {
            hours.add(next);
        }
        int zone = zones[lamp[PLACE]];
        boolean curfew = laws[zone][0] < 24 && (hour >= laws[zone][0] || hour <= 5);
        return hours.contains(hour) && !dark(villages.get(lamp[VILLAGE]), time)
            && (!curfew || lamp[EXEMPT] == 1 || feasts.get(zone).contains(time / 24));
    }

    private static int light(int[] lamp) {
        int loss = lamp[AGE] >= 5000 ? 50 : lamp[AGE] / 100;
        return lamp[FLUX] * (100 - loss) / 100 * (10 - lamp[DIM]) / 10;
    }

    private boolean shaded(int from, int to) {
        int dx = to % 8 - from % 8;
        int dy = to / 8 - from / 8;
        boolean shaded = false;
        for (int ridge = 0; ridge < 64; ridge++) {
            int rx = ridge % 8 - from % 8;
            int ry = ridge / 8 - from / 8;
            boolean within = rx * (rx - dx) <= 0 && ry * (ry - dy) <= 0;
            boolean near = Math.abs(2 * (dx * ry - dy * rx)) <= Math.max(Math.abs(dx), Math.abs(dy));
            shaded |= ridges[ridge] && ridge != from && ridge != to && within && near;
        }
        return shaded;
    }

    private static int away(int one, int other) {
        int dx = one % 8 - other % 8;
        int dy = one / 8 - other / 8;
        return 1 + dx * dx + dy * dy;
    }

    private int gives(int[] lamp, int place) {
        if (!burns(lamp)) {
            return 0;
        }
        int given = light(lamp) * (10 - lamp[SHIELD]) / 10 * (1 << lamp[COLOUR]) / away(lamp[PLACE], place);
        return (shaded(lamp[PLACE], place) ? given / 2 : given) * new int[] {1, 2, 5}[air];
    }

    private long gives(int number, int place) {
        index(number, lamps.size());
        index(place, 64);
        return gives(lamps.get(number), place);
    }

    private long glow(int place) {
        index(place, 64);
        return lamps.stream().mapToLong(lamp -> gives(lamp, place)).sum();
    }

    private long glowFrom(int place, int direction) {
        index(place, 64);
        range(in(direction, 0, 4));
        long all = 0;
        for (int[] lamp : lamps) {
            int ex = lamp[PLACE] % 8 - place % 8;
            int ey = lamp[PLACE] / 8 - place / 8;
            int of = ey > 0 ? 2 : 3;
            of = ex > 0 && Math.abs(ey) <= ex ? 0 : of;
            of = ex < 0 && Math.abs(ey) <= -ex ? 1 : of;
            of = lamp[PLACE] == place ? 4 : of;
            all += of == direction ? gives(lamp, place) : 0;
        }
        return all;
    }

    private long ground(int place) {
        index(place, 64);
        return lamps.stream().filter(this::burns).mapToLong(lamp -> light(lamp) / away(lamp[PLACE], place)).sum();
    }

    private long way(int from, int to, int bound) {
        index(from, 64);
        index(to, 64);
        range(in(bound, 0, 100000));
        Set<Integer> dark = new TreeSet<>();
        for (int place = 0; place < 64; place++) {
            if (ground(place) <= bound) {
                dark.add(place);
            }
        }
        Set<Integer> ring = new TreeSet<>(dark);
        ring.retainAll(Set.of(from));
        for (int steps = 0; steps < 64; steps++) {
            if (ring.contains(to)) {
                return steps;
            }
            Set<Integer> wider = new TreeSet<>(ring);
            for (int place : dark) {
                for (int inner : ring) {
                    if (away(place, inner) == 2) {
                        wider.add(place);
                    }
                }
            }
            ring = wider;
        }
        return -1;
    }

    private long ofReading(int number, int reading, int what) {
        index(number, meters.size());
        index(reading, kept(number).size());
        range(in(what, 0, 2));
        int[] it = kept(number).get(reading);
        return what == 2 ? corrected(number, it) : it[what];
    }

    private long trend(int number) {
        index(number, meters.size());
        BigInteger n = BigInteger.valueOf(kept(number).size());
        BigInteger t = BigInteger.ZERO;
        BigInteger v = BigInteger.ZERO;
        BigInteger tv = BigInteger.ZERO;
        BigInteger tt = BigInteger.ZERO;
        Set<Integer> times = new HashSet<>();
        for (int[] reading : kept(number)) {
            BigInteger when = BigInteger.valueOf(reading[0]);
            BigInteger value = BigInteger.valueOf(corrected(number, reading));
            times.add(reading[0]);
            t = t.add(when);
            v = v.add(value);
            tv = tv.add(when.multiply(value));
            tt = tt.add(when.multiply(when));
        }
        state(times.size() > 1);
        BigInteger above = n.multiply(tv).subtract(t.multiply(v)).multiply(BigInteger.valueOf(1000));
        return above.divide(n.multiply(tt).subtract(t.multiply(t))).longValueExact();
    }

    private long trails(int from, int hours) {
        range(in(from, 0, 20000) && in(hours, 1, 500));
        long all = 0;
        for (int[] satellite : satellites) {
            for (int when = satellite[1]; when < from + hours; when += satellite[0]) {
                all += when >= from && (when % 24 >= 18 || when % 24 < 6) ? 1 : 0;
            }
        }
        return all;
    }

    private long culprit(int place) {
        index(place, 64);
        int culprit = -1;
        for (int lamp = lamps.size() - 1; lamp >= 0; lamp--) {
            int given = gives(lamps.get(lamp), place);
            if (given > 0 && (culprit < 0 || given >= gives(lamps.get(culprit), place))) {
                culprit = lamp;
            }
        }
        return culprit;
    }

    private long plan(int village, int place, int coins) {
        index(village, villages.size());
        index(place, 64);
        range(in(coins, 0, 10000));
        List<int[]> own = lamps.stream().filter(lamp -> lamp[VILLAGE] == village).toList();
        long[] best = null;
        for (int set = 0; set < 1 << own.size(); set++) {
            long[] tried = tryOut(own, set, place);
            boolean allowed = tried[1] >= 0 && tried[1] <= coins;
            if (allowed && (best == null || tried[0] < best[0] || (tried[0] == best[0] && tried[1] < best[1]))) {
                best = tried;
            }
        }
        return best == null ? 0 : best[2];
    }

    /** The GLOW with the SHIELDS of the set raised, the cost (-1 if one is BOUND), the set. */
    private long[] tryOut(List<int[]> own, int set, int place) {
        int[] shields = new int[own.size()];
        int cost = 0;
        boolean bound = false;
        for (int bit = 0; bit < own.size(); bit++) {
            shields[bit] = own.get(bit)[SHIELD];
            if ((set & 1 << bit) != 0) {
                bound |= bound(own.get(bit));
                cost += 2 * (10 - shields[bit]);
                own.get(bit)[SHIELD] = 10;
            }
        }
        long glow = own.stream().mapToLong(lamp -> gives(lamp, place)).sum();
        for (int bit = 0; bit < own.size(); bit++) {
            own.get(bit)[SHIELD] = shields[bit];
        }
        return new long[] {glow, bound ? -1 : cost, set};
    }
}
