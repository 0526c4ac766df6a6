/**
 * A row of bodies on springs, carried forward in time by steps whose lengths are chosen by the
 * error that they would make, with events where a body comes across a level.
 *
 * <p>Every number is held as a whole count of units (1/1024), so that all arithmetic is exact.
 */
public final class OscillatorRow {
    public static final int DONE = 0;
    public static final int REFUSED = -1;
    public static final int DIVERGED = -2;
    public static final int NONE = -2000000000;

    private static final int MOST_BODIES = 4;
    private static final int MOST_SIXTEENTHS = 64;
    private static final int MOST_UNITS = 1000000000;
    private static final int MOST_TOLERANCE = 1000000;
    private static final int FIRST_TOLERANCE = 16;
    private static final int MOST_TICKS = 2048;
    private static final int COARSEST_TICKS = 256;
    private static final int FINEST = 8;
    private static final int MOST_WATCHES = 4;
    private static final int NO_ACTION = -1;
    private static final int TURN = 1;
    private static final int STOP = 2;

    /** Stands for the error of a try that diverges: an error itself is never below 0. */
    private static final long NO_ERROR = -1;

    private final int bodies;
    private final Springs springs;
    private final Motion now;
    private final Motion before;
    private final Motion coarse;
    private final Motion fine;
    private final Watch[] watches;
    private final Hits hits;
    private int allowedError;
    private int time;
    private int fineness;
    private int strides;
    private int rejected;
    private long latestError;

    public OscillatorRow(int bodies) {
        this.bodies = Math.max(1, Math.min(MOST_BODIES, bodies));
        springs = new Springs(this.bodies);
        now = new Motion(this.bodies);
        before = new Motion(this.bodies);
        coarse = new Motion(this.bodies);
        fine = new Motion(this.bodies);
        watches = new Watch[MOST_WATCHES];
        for (int w = 0; w < MOST_WATCHES; w++) {
            watches[w] = new Watch();
        }
        hits = new Hits();
        allowedError = FIRST_TOLERANCE;
    }

    public int body(int i, int stiffness, int drag) {
        if (!isBody(i) || !isSixteenths(stiffness) || !isSixteenths(drag)) {
            return REFUSED;
        }
        springs.stiffnesses[i] = stiffness;
        springs.drags[i] = drag;
        return DONE;
    }

    public int link(int i, int q) {
        if (!isBody(i) || i == bodies - 1 || !isSixteenths(q)) {
            return REFUSED;
        }
        springs.links[i] = q;
        return DONE;
    }

    public int set(int i, int place, int speed) {
        if (!isBody(i) || !isUnits(place) || !isUnits(speed)) {
            return REFUSED;
        }
        now.places[i] = place;
        now.speeds[i] = speed;
        return DONE;
    }

    public int force(int i, int units) {
        if (!isBody(i) || !isUnits(units)) {
            return REFUSED;
        }
        springs.forces[i] = units;
        return DONE;
    }

    public int tolerance(int units) {
        if (units < 0 || units > MOST_TOLERANCE) {
            return REFUSED;
        }
        allowedError = units;
        return DONE;
    }

    public int watch(int w, int i, int level, boolean up, int action) {
        if (w < 0 || w >= MOST_WATCHES || !isBody(i) || !isUnits(level)) {
            return REFUSED;
        }
        if (action < NO_ACTION || action > STOP) {
            return REFUSED;
        }
        Watch chosen = watches[w];
        chosen.watched = i;
        chosen.level = level;
        chosen.up = up;
        chosen.action = action;
        return DONE;
    }

    public int advance(int ticks) {
        if (ticks < 1 || ticks > MOST_TICKS) {
            return REFUSED;
        }
        int gone = 0;
        boolean stopped = false;
        // A stride goes a tick at least, so there are never more strides than ticks.
        for (int n = 0; n < ticks && gone < ticks && !stopped; n++) {
            fitFineness(ticks - gone);
            long error = tryUntilGood();
            if (error == NO_ERROR) {
                return DIVERGED;
            }
            int strideTicks = ticksOf(fineness);
            takeStride(strideTicks, error);
            stopped = lookAtWatches(strideTicks);
            gone += strideTicks;
        }
        return gone;
    }

    public int place(int i) {
        return isBody(i) ? (int) now.places[i] : REFUSED;
    }

    public int speed(int i) {
        return isBody(i) ? (int) now.speeds[i] : REFUSED;
    }

    public long push(int i) {
        return isBody(i) ? springs.pushOn(i, now) : NONE;
    }

    public int hit(int n, int what) {
        if (!hits.keeps(n)) {
            return NONE;
        }
        switch (what) {
            case 0:
                return hits.byWatch[n];
            case 1:
                return hits.atTime[n];
            case 2:
                return hits.withSpeed[n];
            default:
                return NONE;
        }
    }

    public int clear() {
        int forgotten = hits.counted;
        hits.forget();
        return forgotten;
    }

    public int count(int what) {
        switch (what) {
            case 0:
                return time;
            case 1:
                return fineness;
            case 2:
                return strides;
            case 3:
                return rejected;
            case 4:
                return hits.counted;
            case 5:
                return (int) latestError;
            case 6:
                return bodies;
            case 7:
                return watchesSet();
            default:
                return REFUSED;
        }
    }

    private boolean isBody(int i) {
        return i >= 0 && i < bodies;
    }

    private static boolean isSixteenths(int amount) {
        return amount >= 0 && amount <= MOST_SIXTEENTHS;
    }

    private static boolean isUnits(int amount) {
        return amount >= -MOST_UNITS && amount <= MOST_UNITS;
    }

    private int watchesSet() {
        int sum = 0;
        for (int w = 0; w < MOST_WATCHES; w++) {
            if (watches[w].isSet()) {
                sum++;
            }
        }
        return sum;
    }

    private static int ticksOf(int s) {
        return COARSEST_TICKS >> s;
    }

    private void fitFineness(int left) {
        while (fineness < FINEST && !fits(ticksOf(fineness), left)) {
            fineness++;
        }
    }

    // The ticks are a power of two, so the mask tells whether they divide the time.
    private boolean fits(int ticks, int left) {
        return ticks <= left && (time & (ticks - 1)) == 0;
    }

    /** Leaves the outcome of the good try in fine; answers its error, or NO_ERROR. */
    private long tryUntilGood() {
        long error = errorOfTry();
        while (error > allowedError && fineness < FINEST) {
            fineness++;
            rejected++;
            error = errorOfTry();
        }
        return error;
    }

    private long errorOfTry() {
        coarse.copyFrom(now);
        fine.copyFrom(now);
        boolean held = springs.step(coarse, fineness)
                && springs.step(fine, fineness + 1)
                && springs.step(fine, fineness + 1);
        return held ? coarse.greatestDifference(fine) : NO_ERROR;
    }

    private void takeStride(int ticks, long error) {
        before.copyFrom(now);
        now.copyFrom(fine);
        time += ticks;
        strides++;
        latestError = error;
        if (fineness > 0 && error * 8 <= allowedError) {
            fineness--;
        }
    }

    /** Answers whether a watch stops the advance. */
    private boolean lookAtWatches(int ticks) {
        boolean stopped = false;
        for (int w = 0; w < MOST_WATCHES; w++) {
            Watch watch = watches[w];
            int i = watch.watched;
            if (!watch.isHitBy(before.places[i], now.places[i])) {
                continue;
            }
            int since = watch.ticksUntilLevel(before.places[i], now.places[i], ticks);
            hits.note(w, time - ticks + since, (int) now.speeds[i]);
            if (watch.action == TURN) {
                now.speeds[i] = -now.speeds[i];
            }
            stopped = stopped || watch.action == STOP;
        }
        return stopped;
    }

    /** The places and speeds of all bodies, in units. */
    private static final class Motion {
        private final long[] places;
        private final long[] speeds;

        Motion(int bodies) {
            places = new long[bodies];
            speeds = new long[bodies];
        }

        void copyFrom(Motion other) {
            System.arraycopy(other.places, 0, places, 0, places.length);
            System.arraycopy(other.speeds, 0, speeds, 0, speeds.length);
        }

        long greatestDifference(Motion other) {
            long greatest = 0;
            for (int i = 0; i < places.length; i++) {
                greatest = Math.max(greatest, Math.abs(places[i] - other.places[i]));
                greatest = Math.max(greatest, Math.abs(speeds[i] - other.speeds[i]));
            }
            return greatest;
        }
    }

    /** What pushes the bodies, and how a step moves them. */
    private static final class Springs {
        private static final long FARTHEST = 1000000L * 1024L;
        private static final int SIXTEENTH = 4;

        private final int bodies;
        private final int[] stiffnesses;
        private final int[] drags;
        private final int[] links;
        private final int[] forces;

        Springs(int bodies) {
            this.bodies = bodies;
            stiffnesses = new int[bodies];
            drags = new int[bodies];
            links = new int[bodies];
            forces = new int[bodies];
        }

        /** In sixteenths of a unit, which makes it whole. */
        long pushOn(int i, Motion motion) {
            long x = motion.places[i];
            long sum = ((long) forces[i] << SIXTEENTH) - stiffnesses[i] * x - drags[i] * motion.speeds[i];
            if (i + 1 < bodies) {
                sum += links[i] * (motion.places[i + 1] - x);
            }
            if (i > 0) {
                sum -= links[i - 1] * (x - motion.places[i - 1]);
            }
            return sum;
        }

        /** A step of length 1 / 2^halvings in place; false if it diverges, the motion then being spoilt. */
        boolean step(Motion motion, int halvings) {
            return changeSpeeds(motion, halvings)
                    && changePlaces(motion, halvings)
                    && changeSpeeds(motion, halvings);
        }

        // A push looks at no speed but its own body's, so each speed can be replaced at once.
        private boolean changeSpeeds(Motion motion, int halvings) {
            boolean held = true;
            for (int i = 0; i < bodies; i++) {
                long change = roundedPart(pushOn(i, motion), SIXTEENTH + halvings + 1);
                motion.speeds[i] += change;
                held = held && isNear(motion.speeds[i]);
            }
            return held;
        }

        private boolean changePlaces(Motion motion, int halvings) {
            boolean held = true;
            for (int i = 0; i < bodies; i++) {
                motion.places[i] += roundedPart(motion.speeds[i], halvings);
                held = held && isNear(motion.places[i]);
            }
            return held;
        }

        /** The amount / 2^halvings; a half goes up, below 0 too, which the shift does and / would not. */
        private static long roundedPart(long amount, int halvings) {
            long half = (1L << halvings) >> 1;
            return (amount + half) >> halvings;
        }

        private static boolean isNear(long units) {
            return units >= -FARTHEST && units <= FARTHEST;
        }
    }

    /** A level that a body may come across. */
    private static final class Watch {
        private int watched;
        private long level;
        private boolean up;
        private int action = NO_ACTION;

        boolean isSet() {
            return action != NO_ACTION;
        }

        boolean isHitBy(long from, long to) {
            if (!isSet()) {
                return false;
            }
            return up ? from < level && to >= level : from > level && to <= level;
        }

        /** The least whole number of ticks by which an even motion would have come to the level. */
        int ticksUntilLevel(long from, long to, int ticks) {
            long way = Math.abs(to - from);
            if (way == 0) {
                return 0;
            }
            long wayToLevel = ticks * Math.abs(level - from);
            return (int) ((wayToLevel + way - 1) / way);
        }
    }

    /** The hits since the beginning or the latest clear: the first ones are kept, all are counted. */
    private static final class Hits {
        private static final int MOST_KEPT = 40;

        private final int[] byWatch = new int[MOST_KEPT];
        private final int[] atTime = new int[MOST_KEPT];
        private final int[] withSpeed = new int[MOST_KEPT];
        private int kept;
        private int counted;

        boolean keeps(int n) {
            return n >= 0 && n < kept;
        }

        // The place to keep a hit has its own count: that of all hits may wrap around on an object used for ever.
        void note(int w, int tick, int units) {
            counted++;
            if (kept < MOST_KEPT) {
                byWatch[kept] = w;
                atTime[kept] = tick;
                withSpeed[kept] = units;
                kept++;
            }
        }

        void forget() {
            kept = 0;
            counted = 0;
        }
    }
}
