/**
 * A ski village with tows: snow on its runs, queues at its tows, and skiers who ride for points.
 *
 * <p>What would be is found by letting the hours go by in a second village, which is laid out like
 * the first one before each look ahead; it is made once, with the object.
 */
public final class PommelTows {
    private static final int NONE = -1;

    private static final int TOWS = 3;
    private static final int MOST_POMMELS = 4;
    private static final int FIRST_POMMELS = 2;

    private static final int MOST_RUNS = 6;
    private static final int STEEPEST = 9;
    private static final int DEEPEST = 90;
    private static final int FIRST_DEPTH = 30;
    private static final int OPEN_DEPTH = 5;
    private static final int TOO_MUCH_SNOW = 300;

    private static final int CANNON_COINS = 3;
    private static final int CANNON_SNOW = 12;

    private static final int MOST_SKIERS = 8;
    private static final int HIGHEST_SKILL = 9;
    private static final int MOST_FIRST_COINS = 60;
    private static final int MOST_POINTS = 999;
    private static final int WAX_COINS = 2;
    private static final int FULL_LAYER = 10;
    private static final int RIDE_COINS = 1;

    private static final int TABLE_HOURS = 6;
    private static final int FLAKES = 4;
    private static final int NEW = 0;
    private static final int FINE = 1;
    private static final int WET = 2;
    private static final int ICE = 3;

    private static final int RUN_FIGURES = 5;
    private static final int SKIER_FIGURES = 7;
    private static final int TOW_FIGURES = 3;
    private static final int VILLAGE_FIGURES = 9;

    private static final int MOST_HOURS = 60;
    private static final int MOST_UNTIL_HOURS = 90;
    private static final int MOST_ADVISE_HOURS = 12;

    private static final long DIGEST_START = 1481L;
    private static final long DIGEST_FACTOR = 31L;

    private final Village now = new Village();
    private final Village trial = new Village();

    /** Creates a village without runs and skiers, in the hour 0. */
    public PommelTows() {
    }

    // ---- the village

    /** Adds a run to a tow and returns the number of the run. */
    public int run(int tow, int slope)
            throws IndexOutOfBoundsException, IllegalArgumentException, IllegalStateException {
        if (!isWithin(tow, 0, TOWS - 1)) {
            throw new IndexOutOfBoundsException("no such tow");
        }
        if (!isWithin(slope, 1, STEEPEST)) {
            throw new IllegalArgumentException("slope is not 1 to 9");
        }
        if (now.runs.isFull()) {
            throw new IllegalStateException("there are 6 runs");
        }
        return now.runs.add(tow, slope);
    }

    /** Gives a tow its pommels and returns how many it had. */
    public int setPommels(int tow, int pommels)
            throws IndexOutOfBoundsException, IllegalArgumentException {
        if (!isWithin(tow, 0, TOWS - 1)) {
            throw new IndexOutOfBoundsException("no such tow");
        }
        if (!isWithin(pommels, 1, MOST_POMMELS)) {
            throw new IllegalArgumentException("pommels is not 1 to 4");
        }
        int before = now.pommels[tow];
        now.pommels[tow] = pommels;
        return before;
    }

    /** Puts a flake into the table of hours and returns the one before. */
    public int setFlake(int hour, int flake)
            throws IndexOutOfBoundsException, IllegalArgumentException {
        if (!isWithin(hour, 0, TABLE_HOURS - 1)) {
            throw new IndexOutOfBoundsException("hour is not 0 to 5");
        }
        if (!isWithin(flake, 0, FLAKES - 1)) {
            throw new IllegalArgumentException("flake is not 0 to 3");
        }
        int before = now.flakes[hour];
        now.flakes[hour] = flake;
        return before;
    }

    /** Blows snow onto a run for coins of the village and returns how deep the run is then. */
    public int cannon(int run) throws IndexOutOfBoundsException, IllegalStateException {
        if (!now.runs.has(run)) {
            throw new IndexOutOfBoundsException("no such run");
        }
        if (now.coins < CANNON_COINS) {
            throw new IllegalStateException("the village has fewer than 3 coins");
        }
        if (now.runs.depth[run] >= DEEPEST) {
            throw new IllegalStateException("the run is 90 deep");
        }
        now.coins -= CANNON_COINS;
        now.runs.deepen(run, CANNON_SNOW);
        return now.runs.depth[run];
    }

    /** Halves the snow of a run that has too much, and returns by how much less deep it is. */
    public int blast(int run) throws IndexOutOfBoundsException, IllegalStateException {
        if (!now.runs.has(run)) {
            throw new IndexOutOfBoundsException("no such run");
        }
        int before = now.runs.depth[run];
        if (before * now.runs.slope[run] < TOO_MUCH_SNOW) {
            throw new IllegalStateException("not too much snow lies on the run");
        }
        now.runs.depth[run] = before / 2;
        return before - now.runs.depth[run];
    }

    // ---- skiers

    /** Adds a skier without wax, at no tow, and returns the number of the skier. */
    public int skier(int skill, int coins)
            throws IllegalArgumentException, IllegalStateException {
        if (!isWithin(skill, 1, HIGHEST_SKILL)) {
            throw new IllegalArgumentException("skill is not 1 to 9");
        }
        if (!isWithin(coins, 0, MOST_FIRST_COINS)) {
            throw new IllegalArgumentException("coins is not 0 to 60");
        }
        if (now.skiers.isFull()) {
            throw new IllegalStateException("there are 8 skiers");
        }
        return now.skiers.add(skill, coins);
    }

    /** Puts a new wax on, which the skier pays for, and returns the coins that are left. */
    public int wax(int skier, int wax)
            throws IndexOutOfBoundsException, IllegalArgumentException, IllegalStateException {
        if (!now.skiers.has(skier)) {
            throw new IndexOutOfBoundsException("no such skier");
        }
        if (!isWithin(wax, 0, FLAKES - 1)) {
            throw new IllegalArgumentException("wax is not 0 to 3");
        }
        if (now.skiers.coins[skier] < WAX_COINS) {
            throw new IllegalStateException("the skier has fewer than 2 coins");
        }
        now.skiers.coins[skier] -= WAX_COINS;
        now.coins += WAX_COINS;
        now.skiers.putWaxOn(skier, wax);
        return now.skiers.coins[skier];
    }

    /** Sends a skier to the end of a queue and returns the place there, from 0. */
    public int join(int skier, int tow) throws IndexOutOfBoundsException {
        if (!now.skiers.has(skier)) {
            throw new IndexOutOfBoundsException("no such skier");
        }
        if (!isWithin(tow, 0, TOWS - 1)) {
            throw new IndexOutOfBoundsException("no such tow");
        }
        now.skiers.takeOutOfQueue(skier);
        now.skiers.putAtEnd(skier, tow);
        return now.skiers.place[skier];
    }

    /** Has a skier leave the queue and returns whether this one stood in any. */
    public boolean leave(int skier) throws IndexOutOfBoundsException {
        if (!now.skiers.has(skier)) {
            throw new IndexOutOfBoundsException("no such skier");
        }
        boolean stood = now.skiers.tow[skier] != NONE;
        now.skiers.takeOutOfQueue(skier);
        return stood;
    }

    // ---- what there is

    /** Tells of a run: 0 tow, 1 slope, 2 depth, 3 whether it is flagged, 4 how often it was skied. */
    public int about(int run, int what) throws IndexOutOfBoundsException {
        if (!now.runs.has(run)) {
            throw new IndexOutOfBoundsException("no such run");
        }
        if (!isWithin(what, 0, RUN_FIGURES - 1)) {
            throw new IndexOutOfBoundsException("what is not 0 to 4");
        }
        return now.runs.figure(run, what);
    }

    /** Tells of a skier: 0 skill, 1 coins, 2 wax, 3 layer, 4 points, 5 rides, 6 tow. */
    public int told(int skier, int what) throws IndexOutOfBoundsException {
        if (!now.skiers.has(skier)) {
            throw new IndexOutOfBoundsException("no such skier");
        }
        if (!isWithin(what, 0, SKIER_FIGURES - 1)) {
            throw new IndexOutOfBoundsException("what is not 0 to 6");
        }
        return now.skiers.figure(skier, what);
    }

    /** Tells of a tow: 0 pommels, 1 skiers in its queue, 2 how often it pulled somebody. */
    public int tow(int tow, int what) throws IndexOutOfBoundsException {
        if (!isWithin(tow, 0, TOWS - 1)) {
            throw new IndexOutOfBoundsException("no such tow");
        }
        if (!isWithin(what, 0, TOW_FIGURES - 1)) {
            throw new IndexOutOfBoundsException("what is not 0 to 2");
        }
        return now.towFigure(tow, what);
    }

    /** Returns the skier who stands at a place of a queue, from 0. */
    public int stands(int tow, int place) throws IndexOutOfBoundsException {
        if (!isWithin(tow, 0, TOWS - 1)) {
            throw new IndexOutOfBoundsException("no such tow");
        }
        int skier = now.skiers.at(tow, place);
        if (skier == NONE) {
            throw new IndexOutOfBoundsException("nobody stands there");
        }
        return skier;
    }

    /** Returns the run that a skier would choose at a tow as all is now, -1 if there is none. */
    public int choice(int skier, int tow) throws IndexOutOfBoundsException {
        if (!now.skiers.has(skier)) {
            throw new IndexOutOfBoundsException("no such skier");
        }
        if (!isWithin(tow, 0, TOWS - 1)) {
            throw new IndexOutOfBoundsException("no such tow");
        }
        return now.chosenRun(skier, tow);
    }

    /**
     * Tells of the village: 0 hour, 1 its flake, 2 coins, 3 runs, 4 skiers, 5 flagged runs, 6 rides,
     * 7 skiers in queues, 8 points of all skiers.
     */
    public int count(int what) throws IndexOutOfBoundsException {
        if (!isWithin(what, 0, VILLAGE_FIGURES - 1)) {
            throw new IndexOutOfBoundsException("what is not 0 to 8");
        }
        return now.figure(what);
    }

    // ---- hours and what would be

    /** Lets hours go by and returns how many rides there are in them. */
    public int pass(int hours) throws IllegalArgumentException {
        if (!isWithin(hours, 1, MOST_HOURS)) {
            throw new IllegalArgumentException("hours is not 1 to 60");
        }
        return now.letHoursGo(hours);
    }

    /** Returns behind how many hours a skier has ridden once more, -1 if not within 90. */
    public int until(int skier) throws IndexOutOfBoundsException {
        if (!now.skiers.has(skier)) {
            throw new IndexOutOfBoundsException("no such skier");
        }
        trial.copyFrom(now);
        int before = now.skiers.rides[skier];
        for (int hours = 1; hours <= MOST_UNTIL_HOURS; hours++) {
            trial.letHoursGo(1);
            if (trial.skiers.rides[skier] > before) {
                return hours;
            }
        }
        return NONE;
    }

    /** Returns what count() would tell behind some hours. */
    public int foresee(int hours, int what)
            throws IllegalArgumentException, IndexOutOfBoundsException {
        if (!isWithin(hours, 1, MOST_HOURS)) {
            throw new IllegalArgumentException("hours is not 1 to 60");
        }
        if (!isWithin(what, 0, VILLAGE_FIGURES - 1)) {
            throw new IndexOutOfBoundsException("what is not 0 to 8");
        }
        trial.copyFrom(now);
        trial.letHoursGo(hours);
        return trial.figure(what);
    }

    /** Returns the wax that, put on now for nothing, gives a skier the most points. */
    public int advise(int skier, int hours)
            throws IndexOutOfBoundsException, IllegalArgumentException {
        if (!now.skiers.has(skier)) {
            throw new IndexOutOfBoundsException("no such skier");
        }
        if (!isWithin(hours, 1, MOST_ADVISE_HOURS)) {
            throw new IllegalArgumentException("hours is not 1 to 12");
        }
        int best = 0;
        int mostPoints = NONE;
        for (int wax = 0; wax < FLAKES; wax++) {
            trial.copyFrom(now);
            trial.skiers.putWaxOn(skier, wax);
            trial.letHoursGo(hours);
            if (trial.skiers.points[skier] > mostPoints) {
                mostPoints = trial.skiers.points[skier];
                best = wax;
            }
        }
        return best;
    }

    /** Returns the mean of the points of all skiers, 0 without any. */
    public double mean() {
        if (now.skiers.count <= 0) {
            return 0.0;
        }
        return (double) now.skiers.allPoints() / now.skiers.count;
    }

    /** Returns a checksum of all that the village tells. */
    public long digest() {
        long d = DIGEST_START;
        for (int what = 0; what < VILLAGE_FIGURES; what++) {
            d = mixed(d, now.figure(what));
        }
        for (int hour = 0; hour < TABLE_HOURS; hour++) {
            d = mixed(d, now.flakes[hour]);
        }
        for (int run = 0; run < now.runs.count; run++) {
            for (int what = 0; what < RUN_FIGURES; what++) {
                d = mixed(d, now.runs.figure(run, what));
            }
        }
        for (int skier = 0; skier < now.skiers.count; skier++) {
            for (int what = 0; what < SKIER_FIGURES; what++) {
                d = mixed(d, now.skiers.figure(skier, what));
            }
        }
        for (int tow = 0; tow < TOWS; tow++) {
            for (int what = 0; what < TOW_FIGURES; what++) {
                d = mixed(d, now.towFigure(tow, what));
            }
            int waiting = now.skiers.waitingAt(tow);
            for (int place = 0; place < waiting; place++) {
                d = mixed(d, now.skiers.at(tow, place));
            }
        }
        return d;
    }

    private static long mixed(long d, int x) {
        return d * DIGEST_FACTOR + x;
    }

    private static boolean isWithin(int number, int least, int most) {
        return number >= least && number <= most;
    }

    private static int held(int number, int least, int most) {
        return Math.max(least, Math.min(most, number));
    }

    private static void copyRow(int[] from, int[] to) {
        System.arraycopy(from, 0, to, 0, Math.min(from.length, to.length));
    }

    /** By how much deeper a run is in an hour with this flake. */
    private static int snowOf(int flake) {
        switch (flake) {
            case NEW:
                return 4;
            case WET:
                return -2;
            case ICE:
                return -1;
            default:
                return 0;
        }
    }

    /** All runs, each one a number into the rows. */
    private static final class Runs {
        int count = 0;
        final int[] tow = new int[MOST_RUNS];
        final int[] slope = new int[MOST_RUNS];
        final int[] depth = new int[MOST_RUNS];
        final int[] skied = new int[MOST_RUNS];

        boolean has(int run) {
            return run >= 0 && run < count;
        }

        boolean isFull() {
            return count >= MOST_RUNS;
        }

        /** Only while there is room. */
        int add(int itsTow, int itsSlope) {
            int run = count;
            tow[run] = itsTow;
            slope[run] = itsSlope;
            depth[run] = FIRST_DEPTH;
            count++;
            return run;
        }

        void deepen(int run, int snow) {
            depth[run] = held(depth[run] + snow, 0, DEEPEST);
        }

        void deepenAll(int snow) {
            for (int run = 0; run < count; run++) {
                deepen(run, snow);
            }
        }

        boolean isOpen(int run) {
            return depth[run] >= OPEN_DEPTH && depth[run] * slope[run] < TOO_MUCH_SNOW;
        }

        /** The steepest open run of a tow up to a slope, NONE if there is none. */
        int steepestOpen(int atTow, int slopeLimit) {
            int best = NONE;
            int bestSlope = 0;
            for (int run = 0; run < count; run++) {
                boolean fits = tow[run] == atTow && slope[run] <= slopeLimit && isOpen(run);
                // of several as steep, the smallest number stays
                if (fits && slope[run] > bestSlope) {
                    best = run;
                    bestSlope = slope[run];
                }
            }
            return best;
        }

        int flagged() {
            int number = 0;
            for (int run = 0; run < count; run++) {
                if (!isOpen(run)) {
                    number++;
                }
            }
            return number;
        }

        int figure(int run, int what) {
            switch (what) {
                case 0:
                    return tow[run];
                case 1:
                    return slope[run];
                case 2:
                    return depth[run];
                case 3:
                    return isOpen(run) ? 0 : 1;
                default:
                    return skied[run];
            }
        }

        void copyFrom(Runs other) {
            count = other.count;
            copyRow(other.tow, tow);
            copyRow(other.slope, slope);
            copyRow(other.depth, depth);
            copyRow(other.skied, skied);
        }
    }

    /**
     * All skiers, each one a number into the rows. A queue is nothing but the tow and the place that
     * its skiers have, so that no list of them can come to differ from what is told of a skier.
     */
    private static final class Skiers {
        int count = 0;
        final int[] skill = new int[MOST_SKIERS];
        final int[] coins = new int[MOST_SKIERS];
        final int[] wax = new int[MOST_SKIERS];
        final int[] layer = new int[MOST_SKIERS];
        final int[] points = new int[MOST_SKIERS];
        final int[] rides = new int[MOST_SKIERS];
        final int[] tow = new int[MOST_SKIERS];
        final int[] place = new int[MOST_SKIERS];

        boolean has(int skier) {
            return skier >= 0 && skier < count;
        }

        boolean isFull() {
            return count >= MOST_SKIERS;
        }

        /** Only while there is room. */
        int add(int itsSkill, int itsCoins) {
            int skier = count;
            skill[skier] = itsSkill;
            coins[skier] = itsCoins;
            tow[skier] = NONE;
            count++;
            return skier;
        }

        void putWaxOn(int skier, int flake) {
            wax[skier] = flake;
            layer[skier] = FULL_LAYER;
        }

        int waitingAt(int atTow) {
            int number = 0;
            for (int skier = 0; skier < count; skier++) {
                if (tow[skier] == atTow) {
                    number++;
                }
            }
            return number;
        }

        int waitingAnywhere() {
            int number = 0;
            for (int skier = 0; skier < count; skier++) {
                if (tow[skier] != NONE) {
                    number++;
                }
            }
            return number;
        }

        /** Who stands at a place of a queue, NONE if nobody does. */
        int at(int atTow, int atPlace) {
            for (int skier = 0; skier < count; skier++) {
                if (tow[skier] == atTow && place[skier] == atPlace) {
                    return skier;
                }
            }
            return NONE;
        }

        void takeOutOfQueue(int leaver) {
            int oldTow = tow[leaver];
            int oldPlace = place[leaver];
            if (oldTow == NONE) {
                return;
            }
            tow[leaver] = NONE;
            for (int skier = 0; skier < count; skier++) {
                if (tow[skier] == oldTow && place[skier] > oldPlace) {
                    place[skier]--;
                }
            }
        }

        /** Only for one who stands in no queue. */
        void putAtEnd(int skier, int atTow) {
            int end = waitingAt(atTow);
            tow[skier] = atTow;
            place[skier] = end;
        }

        /** How well the wax runs on a flake; it wears the layer. */
        int glide(int skier, int flake) {
            if (layer[skier] <= 0) {
                return -4;
            }
            layer[skier]--;
            return 4 - 2 * Math.abs(wax[skier] - flake);
        }

        void addPoints(int skier, int more) {
            points[skier] = held(points[skier] + more, 0, MOST_POINTS);
        }

        int allPoints() {
            int sum = 0;
            for (int skier = 0; skier < count; skier++) {
                sum += points[skier];
            }
            return sum;
        }

        int figure(int skier, int what) {
            switch (what) {
                case 0:
                    return skill[skier];
                case 1:
                    return coins[skier];
                case 2:
                    return layer[skier] <= 0 ? NONE : wax[skier];
                case 3:
                    return layer[skier];
                case 4:
                    return points[skier];
                case 5:
                    return rides[skier];
                default:
                    return tow[skier];
            }
        }

        void copyFrom(Skiers other) {
            count = other.count;
            copyRow(other.skill, skill);
            copyRow(other.coins, coins);
            copyRow(other.wax, wax);
            copyRow(other.layer, layer);
            copyRow(other.points, points);
            copyRow(other.rides, rides);
            copyRow(other.tow, tow);
            copyRow(other.place, place);
        }
    }

    /** All that there is at one time, and how an hour changes it. */
    private static final class Village {
        int hour = 0;
        int coins = 0;
        final int[] flakes = new int[TABLE_HOURS];
        final int[] pommels = new int[TOWS];
        final int[] pulled = new int[TOWS];
        final Runs runs = new Runs();
        final Skiers skiers = new Skiers();

        Village() {
            for (int i = 0; i < TABLE_HOURS; i++) {
                flakes[i] = FINE;
            }
            for (int tow = 0; tow < TOWS; tow++) {
                pommels[tow] = FIRST_POMMELS;
            }
        }

        void copyFrom(Village other) {
            hour = other.hour;
            coins = other.coins;
            copyRow(other.flakes, flakes);
            copyRow(other.pommels, pommels);
            copyRow(other.pulled, pulled);
            runs.copyFrom(other.runs);
            skiers.copyFrom(other.skiers);
        }

        int flakeOfHour() {
            return flakes[Math.floorMod(hour, TABLE_HOURS)];
        }

        int chosenRun(int skier, int tow) {
            return runs.steepestOpen(tow, skiers.skill[skier] + 1);
        }

        /** Returns how many rides there are. */
        int letHoursGo(int hours) {
            int rides = 0;
            for (int i = 0; i < hours; i++) {
                runs.deepenAll(snowOf(flakeOfHour()));
                for (int tow = 0; tow < TOWS; tow++) {
                    rides += pullAt(tow);
                }
                hour++;
            }
            return rides;
        }

        /** The turn of a tow in an hour; returns how many it pulls. */
        int pullAt(int tow) {
            int rides = 0;
            // who comes to the end in this turn stands behind these, and is not looked at again
            int toLookAt = skiers.waitingAt(tow);
            for (int looked = 0; looked < toLookAt && rides < pommels[tow]; looked++) {
                int skier = skiers.at(tow, 0);
                if (!skiers.has(skier)) {
                    break;
                }
                skiers.takeOutOfQueue(skier);
                if (skiers.coins[skier] >= RIDE_COINS) {
                    skiers.coins[skier] -= RIDE_COINS;
                    coins += RIDE_COINS;
                    skiers.rides[skier]++;
                    rides++;
                    skiDown(skier, tow);
                    skiers.putAtEnd(skier, tow);
                }
            }
            pulled[tow] += rides;
            return rides;
        }

        void skiDown(int skier, int tow) {
            int run = chosenRun(skier, tow);
            if (!runs.has(run)) {
                return;
            }
            int glide = skiers.glide(skier, flakeOfHour());
            skiers.addPoints(skier, 3 * runs.slope[run] + skiers.skill[skier] + glide);
            runs.deepen(run, -1);
            runs.skied[run]++;
        }

        int allRides() {
            int sum = 0;
            for (int tow = 0; tow < TOWS; tow++) {
                sum += pulled[tow];
            }
            return sum;
        }

        int towFigure(int tow, int what) {
            switch (what) {
                case 0:
                    return pommels[tow];
                case 1:
                    return skiers.waitingAt(tow);
                default:
                    return pulled[tow];
            }
        }

        int figure(int what) {
            switch (what) {
                case 0:
                    return hour;
                case 1:
                    return flakeOfHour();
                case 2:
                    return coins;
                case 3:
                    return runs.count;
                case 4:
                    return skiers.count;
                case 5:
                    return runs.flagged();
                case 6:
                    return allRides();
                case 7:
                    return skiers.waitingAnywhere();
                default:
                    return skiers.allPoints();
            }
        }
    }
}
