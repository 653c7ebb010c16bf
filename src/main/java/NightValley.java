import java.util.ArrayList;
import java.util.Arrays;

public final class NightValley {
    public static final int NONE = -1;
    public static final int CLEAR = 0, DUSTY = 1, CLOUDY = 2;
    public static final int AMBER = 0, WARM = 1, COLD = 2;
    public static final int EAST = 0, WEST = 1, SOUTH = 2, NORTH = 3, OVERHEAD = 4;

    private static final int SIDE = 8;
    private static final int PLACES = SIDE * SIDE;
    private static final int ZONES = 4;
    private static final int MOST_VILLAGES = 5;
    private static final int MOST_LAMPS = 40;
    private static final int MOST_LAMPS_OF_VILLAGE = 10;
    private static final int MOST_METERS = 8;
    private static final int MOST_SATELLITES = 10;
    private static final int MOST_READINGS = 10;
    private static final int FEAST_DAYS = 1000;
    private static final int LAST_TIME = 20000;
    private static final int LONGEST = 500;
    private static final int MOST_HOUSEHOLDS = 500;
    private static final int MOST_COINS = 10000;
    private static final int HOURS_OF_DAY = 24;
    private static final int NO_CURFEW = 24;
    private static final int EVENING = 18;
    private static final int MORNING = 6;
    private static final int FULL = 10;
    private static final int SHIELD_COST = 2;
    private static final int DIM_COST = 3;
    private static final int BOUND_HOURS = 8760;
    private static final int FINE = 10;
    private static final int FINE_REST = 720;
    private static final int SKY_BASE = 20;

    private final ArrayList<Zone> zones = new ArrayList<>();
    private final ArrayList<Place> places = new ArrayList<>();
    private final ArrayList<Village> villages = new ArrayList<>();
    private final ArrayList<Lamp> lamps = new ArrayList<>();
    private final ArrayList<Meter> meters = new ArrayList<>();
    private final ArrayList<Satellite> satellites = new ArrayList<>();
    private final Label label = new Label();
    private final Walk walk = new Walk();
    private final Choice choice = new Choice();
    private int time;
    private int air;

    public NightValley() {
        Zone first = new Zone(0);
        zones.add(first);
        for (int zone = 1; zone < ZONES; zone++) {
            zones.add(new Zone(zone));
        }
        for (int place = 0; place < PLACES; place++) {
            places.add(new Place(place, first));
        }
    }

    // ---- the valley

    public boolean ridge(int place, boolean is) throws IndexOutOfBoundsException {
        Place there = placeOf(place);
        boolean was = there.ridge;
        there.ridge = is;
        return was;
    }

    public int zone(int place, int zone) throws IndexOutOfBoundsException {
        Place there = placeOf(place);
        Zone told = zoneOf(zone);
        int was = there.zone.number;
        there.zone = told;
        return was;
    }

    public void law(int zone, int curfew, int colour, int shield) throws IndexOutOfBoundsException, IllegalArgumentException {
        Zone there = zoneOf(zone);
        needRange(curfew, EVENING, NO_CURFEW);
        needRange(colour, AMBER, COLD);
        needRange(shield, 0, FULL);
        there.curfew = curfew;
        there.greatestColour = colour;
        there.leastShield = shield;
    }

    public int feast(int zone, int day) throws IndexOutOfBoundsException, IllegalArgumentException {
        Zone there = zoneOf(zone);
        needRange(day, 0, FEAST_DAYS - 1);
        there.celebrate(day);
        return there.feastDays;
    }

    public int air(int air) throws IllegalArgumentException {
        needRange(air, CLEAR, CLOUDY);
        int was = this.air;
        this.air = air;
        return was;
    }

    public int pass(int hours) throws IllegalArgumentException, IllegalStateException {
        needRange(hours, 1, LONGEST);
        needState(time + hours <= LAST_TIME);
        for (int hour = 0; hour < hours; hour++) {
            ageLamps();
            time++;
        }
        return time;
    }

    // ---- villages, lamps

    public int village(int households, int coins) throws IllegalArgumentException, IllegalStateException {
        needRange(households, 1, MOST_HOUSEHOLDS);
        needRange(coins, 0, MOST_COINS);
        needState(villages.size() < MOST_VILLAGES);
        villages.add(new Village(households, coins));
        return villages.size() - 1;
    }

    public int lamp(int village, int place, int flux, int colour, int shield) throws IndexOutOfBoundsException, IllegalArgumentException, IllegalStateException {
        Village owner = villageOf(village);
        Place there = placeOf(place);
        needRange(flux, 1, 10000);
        needRange(colour, AMBER, COLD);
        needRange(shield, 0, FULL);
        needState(lamps.size() < MOST_LAMPS && owner.lampCount < MOST_LAMPS_OF_VILLAGE);
        lamps.add(new Lamp(owner, there, flux, colour, shield));
        owner.lampCount++;
        return lamps.size() - 1;
    }

    public void hours(int lamp, int from, int to) throws IndexOutOfBoundsException, IllegalArgumentException, IllegalStateException {
        Lamp told = lampOf(lamp);
        needRange(from, 0, HOURS_OF_DAY - 1);
        needRange(to, 0, HOURS_OF_DAY - 1);
        needState(told.boundHours(time) == 0);
        told.from = from;
        told.to = to;
    }

    public boolean exempt(int lamp, boolean is) throws IndexOutOfBoundsException {
        Lamp told = lampOf(lamp);
        boolean was = told.exempt;
        told.exempt = is;
        return was;
    }

    public int outage(int village, int hours) throws IndexOutOfBoundsException, IllegalArgumentException {
        Village dark = villageOf(village);
        needRange(hours, 0, LONGEST);
        int left = Math.max(dark.outageEnd - time, 0);
        dark.outageEnd = time + hours;
        return left;
    }

    public int vote(int lamp, int shield, int dim, int yeses, int noes) throws IndexOutOfBoundsException, IllegalArgumentException, IllegalStateException {
        Lamp refitted = lampOf(lamp);
        Village voters = refitted.village;
        needRange(shield, refitted.shield, FULL);
        needRange(dim, refitted.dim, FULL);
        needRange(yeses, 0, MOST_HOUSEHOLDS);
        needRange(noes, 0, MOST_HOUSEHOLDS);
        needRange(yeses + noes, 0, voters.households);
        needState(refitted.boundHours(time) == 0);
        needState(shield > refitted.shield || dim > refitted.dim);
        int cost = refitted.refitCost(shield, dim);
        int pays = cost - cost / 2;
        if (!voters.agrees(yeses, noes) || voters.coins < pays) {
            return NONE;
        }
        refitted.refit(shield, dim, time);
        voters.coins -= pays;
        return pays;
    }

    public int inspect(int zone) throws IndexOutOfBoundsException {
        Zone inspected = zoneOf(zone);
        int fined = 0;
        for (int i = 0; i < lamps.size(); i++) {
            Lamp lamp = lamps.get(i);
            if (lamp.place.zone == inspected && lamp.isUnlawful() && time >= lamp.nextFine) {
                lamp.nextFine = time + FINE_REST;
                lamp.village.payFine();
                fined++;
            }
        }
        return fined;
    }

    // ---- meters, the label, satellites

    public int meter(int place, int zero, int drift) throws IndexOutOfBoundsException, IllegalArgumentException, IllegalStateException {
        Place there = placeOf(place);
        needRange(zero, -50, 50);
        needRange(drift, -3, 3);
        needState(meters.size() < MOST_METERS);
        meters.add(new Meter(there, zero, drift));
        return meters.size() - 1;
    }

    public int read(int meter) throws IndexOutOfBoundsException {
        Meter used = meterOf(meter);
        int error = used.zero + used.drift * (time / HOURS_OF_DAY);
        int value = glowOf(used.place) + moonAt(time) + SKY_BASE + error;
        used.keep(new Reading(time, value));
        return value;
    }

    public int tell(int meter, int zero) throws IndexOutOfBoundsException, IllegalArgumentException {
        Meter told = meterOf(meter);
        needRange(zero, -5000, 5000);
        int was = told.toldZero;
        told.toldZero = zero;
        return was;
    }

    public boolean audit(int limit) throws IllegalArgumentException {
        needRange(limit, 0, 100000);
        boolean succeeds = true;
        for (int i = 0; i < meters.size(); i++) {
            if (!meters.get(i).keepsTo(limit)) {
                succeeds = false;
            }
        }
        label.follow(succeeds);
        return succeeds;
    }

    public int satellite(int period, int phase) throws IllegalArgumentException, IllegalStateException {
        needRange(period, 1, 100);
        needRange(phase, 0, period - 1);
        needState(satellites.size() < MOST_SATELLITES);
        satellites.add(new Satellite(period, phase));
        return satellites.size() - 1;
    }

    // ---- what is asked

    public int time() {
        return time;
    }

    public int ofLamp(int lamp, int what) throws IndexOutOfBoundsException, IllegalArgumentException {
        Lamp asked = lampOf(lamp);
        needRange(what, 0, 6);
        switch (what) {
            case 0:
                return isBurning(asked) ? 1 : 0;
            case 1:
                return asked.light();
            case 2:
                return asked.age;
            case 3:
                return asked.shield;
            case 4:
                return asked.dim;
            case 5:
                return asked.boundHours(time);
            default:
                return asked.isUnlawful() ? 1 : 0;
        }
    }

    public int ofVillage(int village, int what) throws IndexOutOfBoundsException, IllegalArgumentException {
        Village asked = villageOf(village);
        needRange(what, 0, 3);
        switch (what) {
            case 0:
                return asked.coins;
            case 1:
                return asked.lampCount;
            case 2:
                return burningLampsOf(asked);
            default:
                return asked.fined;
        }
    }

    public int gives(int lamp, int place) throws IndexOutOfBoundsException {
        Lamp giver = lampOf(lamp);
        return givenBy(giver, placeOf(place));
    }

    public int glow(int place) throws IndexOutOfBoundsException {
        return glowOf(placeOf(place));
    }

    public int glowFrom(int place, int direction) throws IndexOutOfBoundsException, IllegalArgumentException {
        Place there = placeOf(place);
        needRange(direction, EAST, OVERHEAD);
        int all = 0;
        for (int i = 0; i < lamps.size(); i++) {
            Lamp lamp = lamps.get(i);
            if (there.directionOf(lamp.place) == direction) {
                all += givenBy(lamp, there);
            }
        }
        return all;
    }

    public int ground(int place) throws IndexOutOfBoundsException {
        Place there = placeOf(place);
        int all = 0;
        for (int i = 0; i < lamps.size(); i++) {
            Lamp lamp = lamps.get(i);
            if (isBurning(lamp)) {
                all += weakened(lamp.light(), there.x - lamp.place.x, there.y - lamp.place.y);
            }
        }
        return all;
    }

    public int way(int from, int to, int bound) throws IndexOutOfBoundsException, IllegalArgumentException {
        needNumber(from, PLACES);
        needNumber(to, PLACES);
        needRange(bound, 0, 100000);
        walk.darken();
        for (int i = 0; i < lamps.size(); i++) {
            Lamp lamp = lamps.get(i);
            if (isBurning(lamp)) {
                walk.shine(lamp.light(), lamp.place);
            }
        }
        return walk.leastSteps(from, to, bound);
    }

    public int ofReading(int meter, int reading, int what) throws IndexOutOfBoundsException, IllegalArgumentException {
        Meter asked = meterOf(meter);
        needNumber(reading, asked.readings.size());
        needRange(what, 0, 2);
        Reading kept = asked.readings.get(reading);
        switch (what) {
            case 0:
                return kept.when;
            case 1:
                return kept.value;
            default:
                return asked.corrected(kept);
        }
    }

    public long trend(int meter) throws IndexOutOfBoundsException, IllegalStateException {
        return meterOf(meter).slope();
    }

    public boolean isHeld() {
        return label.held;
    }

    public int trails(int from, int hours) throws IllegalArgumentException {
        needRange(from, 0, LAST_TIME);
        needRange(hours, 1, LONGEST);
        int all = 0;
        for (int when = from; when < from + hours; when++) {
            if (isNight(when % HOURS_OF_DAY)) {
                all += passesAt(when);
            }
        }
        return all;
    }

    public int culprit(int place) throws IndexOutOfBoundsException {
        Place there = placeOf(place);
        int culprit = NONE;
        int most = 0;
        for (int i = 0; i < lamps.size(); i++) {
            int given = givenBy(lamps.get(i), there);
            if (given > most) {
                most = given;
                culprit = i;
            }
        }
        return culprit;
    }

    public int plan(int village, int place, int coins) throws IndexOutOfBoundsException, IllegalArgumentException {
        Village planner = villageOf(village);
        Place there = placeOf(place);
        needRange(coins, 0, MOST_COINS);
        choice.clear();
        for (int i = 0; i < lamps.size(); i++) {
            Lamp lamp = lamps.get(i);
            if (lamp.village == planner) {
                choice.offer(planCost(lamp), givenBy(lamp, there));
            }
        }
        return choice.best(coins);
    }

    // ---- what is tested ahead of each call

    private static void needNumber(int number, int count) {
        if (number < 0 || number >= count) {
            throw new IndexOutOfBoundsException();
        }
    }

    private static void needRange(int argument, int least, int greatest) {
        if (argument < least || argument > greatest) {
            throw new IllegalArgumentException();
        }
    }

    private static void needState(boolean allowed) {
        if (!allowed) {
            throw new IllegalStateException();
        }
    }

    private Place placeOf(int place) {
        needNumber(place, places.size());
        return places.get(place);
    }

    private Zone zoneOf(int zone) {
        needNumber(zone, zones.size());
        return zones.get(zone);
    }

    private Village villageOf(int village) {
        needNumber(village, villages.size());
        return villages.get(village);
    }

    private Lamp lampOf(int lamp) {
        needNumber(lamp, lamps.size());
        return lamps.get(lamp);
    }

    private Meter meterOf(int meter) {
        needNumber(meter, meters.size());
        return meters.get(meter);
    }

    // ---- time and light

    private static boolean isNight(int hour) {
        return hour >= EVENING || hour < MORNING;
    }

    private static int moonAt(int when) {
        int dayOfMonth = when / HOURS_OF_DAY % 30;
        return isNight(when % HOURS_OF_DAY) ? 4 * (15 - Math.abs(15 - dayOfMonth)) : 0;
    }

    private static int weakened(int light, int dx, int dy) {
        int spread = 1 + dx * dx + dy * dy;
        return spread > 0 ? light / spread : 0;
    }

    private void ageLamps() {
        for (int i = 0; i < lamps.size(); i++) {
            Lamp lamp = lamps.get(i);
            if (isBurning(lamp)) {
                lamp.age++;
            }
        }
    }

    private boolean isBurning(Lamp lamp) {
        int hour = time % HOURS_OF_DAY;
        if (!lamp.hasHour(hour) || time < lamp.village.outageEnd) {
            return false;
        }
        Zone zone = lamp.place.zone;
        return lamp.exempt || zone.isOpenAt(hour) || zone.hasFeast(time / HOURS_OF_DAY);
    }

    private int burningLampsOf(Village village) {
        int burning = 0;
        for (int i = 0; i < lamps.size(); i++) {
            Lamp lamp = lamps.get(i);
            if (lamp.village == village && isBurning(lamp)) {
                burning++;
            }
        }
        return burning;
    }

    private int givenBy(Lamp lamp, Place place) {
        if (!isBurning(lamp)) {
            return 0;
        }
        int sent = lamp.skyLight();
        int arriving = weakened(sent, place.x - lamp.place.x, place.y - lamp.place.y);
        int seen = isShaded(lamp.place, place) ? arriving / 2 : arriving;
        return seen * airFactor();
    }

    private int airFactor() {
        if (air == CLOUDY) {
            return 5;
        }
        return air == DUSTY ? 2 : 1;
    }

    private int glowOf(Place place) {
        int all = 0;
        for (int i = 0; i < lamps.size(); i++) {
            all += givenBy(lamps.get(i), place);
        }
        return all;
    }

    // A ridge shades only from between the two, so their rows and columns alone are walked.
    private boolean isShaded(Place lamp, Place seen) {
        int left = Math.min(lamp.x, seen.x);
        int right = Math.max(lamp.x, seen.x);
        int top = Math.min(lamp.y, seen.y);
        int bottom = Math.max(lamp.y, seen.y);
        for (int y = top; y <= bottom; y++) {
            for (int x = left; x <= right; x++) {
                int number = SIDE * y + x;
                if (number >= 0 && number < places.size() && places.get(number).shades(lamp, seen)) {
                    return true;
                }
            }
        }
        return false;
    }

    // A bound lamp keeps its bit, so it is offered too, for more than any plan may cost.
    private int planCost(Lamp lamp) {
        return lamp.boundHours(time) > 0 ? MOST_COINS + 1 : lamp.refitCost(FULL, lamp.dim);
    }

    private int passesAt(int when) {
        int passes = 0;
        for (int i = 0; i < satellites.size(); i++) {
            if (satellites.get(i).isOver(when)) {
                passes++;
            }
        }
        return passes;
    }

    private static final class Zone {
        final int number;
        final boolean[] feasts = new boolean[FEAST_DAYS];
        int feastDays;
        int curfew = NO_CURFEW;
        int greatestColour = COLD;
        int leastShield;

        Zone(int number) {
            this.number = number;
        }

        void celebrate(int day) {
            if (day >= 0 && day < feasts.length && !feasts[day]) {
                feasts[day] = true;
                feastDays++;
            }
        }

        boolean hasFeast(int day) {
            return day >= 0 && day < feasts.length && feasts[day];
        }

        boolean isOpenAt(int hour) {
            return curfew == NO_CURFEW || (hour < curfew && hour >= MORNING);
        }
    }

    private static final class Place {
        final int x;
        final int y;
        Zone zone;
        boolean ridge;

        Place(int number, Zone zone) {
            this.x = number % SIDE;
            this.y = number / SIDE;
            this.zone = zone;
        }

        boolean shades(Place lamp, Place seen) {
            return ridge && this != lamp && this != seen && isNearLine(lamp, seen);
        }

        private boolean isNearLine(Place lamp, Place seen) {
            int dx = seen.x - lamp.x;
            int dy = seen.y - lamp.y;
            int off = dx * (y - lamp.y) - dy * (x - lamp.x);
            return 2 * Math.abs(off) <= Math.max(Math.abs(dx), Math.abs(dy));
        }

        int directionOf(Place lamp) {
            int ex = lamp.x - x;
            int ey = lamp.y - y;
            if (ex == 0 && ey == 0) {
                return OVERHEAD;
            }
            if (Math.abs(ey) <= Math.abs(ex)) {
                return ex > 0 ? EAST : WEST;
            }
            return ey > 0 ? SOUTH : NORTH;
        }
    }

    private static final class Village {
        final int households;
        int coins;
        int fined;
        int lampCount;
        int outageEnd;

        Village(int households, int coins) {
            this.households = households;
            this.coins = coins;
        }

        boolean agrees(int yeses, int noes) {
            return yeses > noes && 2 * (yeses + noes) >= households;
        }

        void payFine() {
            coins -= FINE;
            fined += FINE;
        }
    }

    private static final class Lamp {
        final Village village;
        final Place place;
        final int flux;
        final int colour;
        int shield;
        int dim;
        int from = EVENING;
        int to = MORNING;
        boolean exempt;
        int age;
        int boundEnd;
        int nextFine;

        Lamp(Village village, Place place, int flux, int colour, int shield) {
            this.village = village;
            this.place = place;
            this.flux = flux;
            this.colour = colour;
            this.shield = shield;
        }

        boolean hasHour(int hour) {
            if (from == to) {
                return true;
            }
            return from < to ? hour >= from && hour < to : hour >= from || hour < to;
        }

        int light() {
            int aged = flux * (100 - Math.min(age / 100, 50)) / 100;
            return aged * (FULL - dim) / FULL;
        }

        int skyLight() {
            int unshielded = light() * (FULL - shield) / FULL;
            if (colour == COLD) {
                return unshielded * 4;
            }
            return colour == WARM ? unshielded * 2 : unshielded;
        }

        boolean isUnlawful() {
            return !exempt && (colour > place.zone.greatestColour || shield < place.zone.leastShield);
        }

        int boundHours(int now) {
            return Math.max(boundEnd - now, 0);
        }

        int refitCost(int newShield, int newDim) {
            return SHIELD_COST * (newShield - shield) + DIM_COST * (newDim - dim);
        }

        void refit(int newShield, int newDim, int now) {
            shield = newShield;
            dim = newDim;
            boundEnd = now + BOUND_HOURS;
        }
    }

    private static final class Reading {
        final int when;
        final int value;

        Reading(int when, int value) {
            this.when = when;
            this.value = value;
        }
    }

    private static final class Meter {
        final Place place;
        final int zero;
        final int drift;
        final ArrayList<Reading> readings = new ArrayList<>();
        int toldZero;

        Meter(Place place, int zero, int drift) {
            this.place = place;
            this.zero = zero;
            this.drift = drift;
        }

        void keep(Reading reading) {
            if (readings.size() >= MOST_READINGS) {
                readings.remove(0);
            }
            readings.add(reading);
        }

        int corrected(Reading reading) {
            return reading.value - moonAt(reading.when) - SKY_BASE - toldZero;
        }

        boolean keepsTo(int limit) {
            int count = readings.size();
            return count == 0 || corrected(readings.get(count - 1)) <= limit;
        }

        long slope() {
            long count = readings.size();
            long times = 0;
            long values = 0;
            long products = 0;
            long squares = 0;
            for (int i = 0; i < readings.size(); i++) {
                Reading reading = readings.get(i);
                long when = reading.when;
                long value = corrected(reading);
                times += when;
                values += value;
                products += when * value;
                squares += when * when;
            }
            // It is 0 just if no two times are unlike, so no other test of the state is needed.
            long divisor = count * squares - times * times;
            if (divisor == 0) {
                throw new IllegalStateException();
            }
            return 1000 * (count * products - times * values) / divisor;
        }
    }

    private static final class Label {
        boolean held = true;
        int successes;
        int failures;

        void follow(boolean succeeded) {
            successes = succeeded ? successes + 1 : 0;
            failures = succeeded ? 0 : failures + 1;
            if (failures >= 2) {
                held = false;
            }
            if (successes >= 3) {
                held = true;
            }
        }
    }

    private static final class Satellite {
        final int period;
        final int phase;

        Satellite(int period, int phase) {
            this.period = period;
            this.phase = phase;
        }

        boolean isOver(int when) {
            return period > 0 && when % period == phase;
        }
    }

    // Its rows are made once and filled anew for each question.
    private static final class Walk {
        final int[] grounds = new int[PLACES];
        final int[] steps = new int[PLACES];
        final int[] reached = new int[PLACES];
        int reachedCount;

        void darken() {
            Arrays.fill(grounds, 0);
        }

        void shine(int light, Place lamp) {
            for (int place = 0; place < grounds.length; place++) {
                grounds[place] += weakened(light, place % SIDE - lamp.x, place / SIDE - lamp.y);
            }
        }

        int leastSteps(int from, int to, int bound) {
            Arrays.fill(steps, NONE);
            reachedCount = 0;
            reach(from, 0, bound);
            for (int next = 0; next < reachedCount && next < reached.length; next++) {
                goOn(reached[next], bound);
            }
            return to >= 0 && to < steps.length ? steps[to] : NONE;
        }

        private void goOn(int place, int bound) {
            if (place < 0 || place >= steps.length) {
                return;
            }
            int count = steps[place] + 1;
            int x = place % SIDE;
            if (x > 0) {
                reach(place - 1, count, bound);
            }
            if (x < SIDE - 1) {
                reach(place + 1, count, bound);
            }
            reach(place - SIDE, count, bound);
            reach(place + SIDE, count, bound);
        }

        private void reach(int place, int count, int bound) {
            if (place < 0 || place >= PLACES || reachedCount < 0 || reachedCount >= reached.length) {
                return;
            }
            if (steps[place] == NONE && grounds[place] <= bound) {
                steps[place] = count;
                reached[reachedCount] = place;
                reachedCount++;
            }
        }
    }

    // Its rows are made once and filled anew for each question.
    private static final class Choice {
        final int[] costs = new int[MOST_LAMPS_OF_VILLAGE];
        final int[] spares = new int[MOST_LAMPS_OF_VILLAGE];
        int count;

        void clear() {
            count = 0;
        }

        void offer(int cost, int spare) {
            if (count >= 0 && count < MOST_LAMPS_OF_VILLAGE) {
                costs[count] = cost;
                spares[count] = spare;
                count++;
            }
        }

        // A lamp with a full shield gives nothing, so the least glow is where the most is spared;
        // and as sets rise, of several equal ones the first is the lowest.
        int best(int coins) {
            int best = 0;
            int bestCost = 0;
            int bestSpare = 0;
            for (int set = 1; set < 1 << count; set++) {
                int cost = sumOver(set, costs);
                int spare = cost <= coins ? sumOver(set, spares) : NONE;
                if (spare > bestSpare || (spare == bestSpare && cost < bestCost)) {
                    best = set;
                    bestCost = cost;
                    bestSpare = spare;
                }
            }
            return best;
        }

        private int sumOver(int set, int[] row) {
            int sum = 0;
            for (int bit = 0; bit < count && bit < row.length; bit++) {
                if ((set >> bit & 1) == 1) {
                    sum += row[bit];
                }
            }
            return sum;
        }
    }
}
