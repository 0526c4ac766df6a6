import java.math.BigDecimal;
import java.math.RoundingMode;
import java.util.ArrayList;
import java.util.List;

/**
 * The document once more, written as slowly and as plainly as its words: numbers, not units, as exact
 * decimal fractions (a number whose divisor is a power of two always is one).
 */
final class ReferenceRow {
    private static final BigDecimal TWO = BigDecimal.valueOf(2);
    private static final BigDecimal SIXTEEN = BigDecimal.valueOf(16);
    private static final BigDecimal GRID = BigDecimal.valueOf(1024);
    private static final BigDecimal HALF_GRID = BigDecimal.ONE.divide(BigDecimal.valueOf(2048));
    private static final BigDecimal LIMIT = BigDecimal.valueOf(1000000);

    private static final class Diverges extends Exception {
        private static final long serialVersionUID = 1L;
    }

    private record Outcome(BigDecimal[] x, BigDecimal[] v) { }

    private record WatchOn(int i, BigDecimal level, boolean up, int action) { }

    private final int n;
    private final BigDecimal[] k;
    private final BigDecimal[] c;
    private final BigDecimal[] q;
    private final BigDecimal[] f;
    private BigDecimal[] x;
    private BigDecimal[] v;
    private final WatchOn[] watches = new WatchOn[4];
    private final List<int[]> hits = new ArrayList<>();
    private BigDecimal tolerance = number(16);
    private BigDecimal latestError = BigDecimal.ZERO;
    private int time;
    private int s;
    private int taken;
    private int rejected;

    ReferenceRow(int bodies) {
        n = bodies < 1 ? 1 : bodies > 4 ? 4 : bodies;
        k = zeros();
        c = zeros();
        q = zeros();
        f = zeros();
        x = zeros();
        v = zeros();
    }

    private BigDecimal[] zeros() {
        BigDecimal[] row = new BigDecimal[n];
        java.util.Arrays.fill(row, BigDecimal.ZERO);
        return row;
    }

    private static BigDecimal number(int units) {
        return BigDecimal.valueOf(units).divide(GRID);
    }

    private static int units(BigDecimal number) {
        return number.multiply(GRID).intValueExact();
    }

    private static BigDecimal rounded(BigDecimal y) {
        return y.add(HALF_GRID).multiply(GRID).setScale(0, RoundingMode.FLOOR).divide(GRID);
    }

    private static boolean outside(long amount, long least, long most) {
        return amount < least || amount > most;
    }

    private static boolean wrongUnits(int units) {
        return outside(units, -1000000000, 1000000000);
    }

    private BigDecimal linkAt(int i) {
        return i < 0 || i >= n - 1 ? BigDecimal.ZERO : q[i];
    }

    private BigDecimal pushOn(int i, BigDecimal[] places, BigDecimal[] speeds) {
        BigDecimal right = i + 1 < n ? places[i + 1] : BigDecimal.ZERO;
        BigDecimal left = i > 0 ? places[i - 1] : BigDecimal.ZERO;
        return f[i].subtract(k[i].multiply(places[i])).subtract(c[i].multiply(speeds[i]))
                .add(linkAt(i).multiply(right.subtract(places[i])))
                .subtract(linkAt(i - 1).multiply(places[i].subtract(left)));
    }

    private static BigDecimal near(BigDecimal number) throws Diverges {
        if (number.compareTo(LIMIT) > 0 || number.compareTo(LIMIT.negate()) < 0) {
            throw new Diverges();
        }
        return number;
    }

    private Outcome step(Outcome from, BigDecimal h) throws Diverges {
        BigDecimal half = h.divide(TWO);
        BigDecimal[] w = zeros();
        BigDecimal[] y = zeros();
        BigDecimal[] u = zeros();
        for (int i = 0; i < n; i++) {
            w[i] = near(rounded(from.v[i].add(half.multiply(pushOn(i, from.x, from.v)))));
        }
        for (int i = 0; i < n; i++) {
            y[i] = near(rounded(from.x[i].add(h.multiply(w[i]))));
        }
        for (int i = 0; i < n; i++) {
            u[i] = near(rounded(w[i].add(half.multiply(pushOn(i, y, w)))));
        }
        return new Outcome(y, u);
    }

    private BigDecimal errorBetween(Outcome a, Outcome b) {
        BigDecimal greatest = BigDecimal.ZERO;
        for (int i = 0; i < n; i++) {
            greatest = greatest.max(a.x[i].subtract(b.x[i]).abs()).max(a.v[i].subtract(b.v[i]).abs());
        }
        return greatest;
    }

    /** Answers the ticks of the stride. */
    private int stride(int left) throws Diverges {
        while (256 / (1 << s) > left || time % (256 / (1 << s)) != 0) {
            s++;
        }
        while (true) {
            int ticks = 256 / (1 << s);
            BigDecimal h = BigDecimal.ONE.divide(BigDecimal.valueOf(1 << s));
            Outcome from = new Outcome(x, v);
            Outcome one = step(from, h);
            Outcome two = step(step(from, h.divide(TWO)), h.divide(TWO));
            BigDecimal error = errorBetween(one, two);
            if (error.compareTo(tolerance) > 0 && s < 8) {
                s++;
                rejected++;
                continue;
            }
            x = two.x;
            v = two.v;
            time += ticks;
            taken++;
            latestError = error;
            if (s > 0 && error.multiply(BigDecimal.valueOf(8)).compareTo(tolerance) <= 0) {
                s--;
            }
            return ticks;
        }
    }

    private boolean hits(WatchOn watch, BigDecimal before, BigDecimal after) {
        int was = before.compareTo(watch.level);
        int is = after.compareTo(watch.level);
        return watch.up ? was < 0 && is >= 0 : was > 0 && is <= 0;
    }

    private int ticksToLevel(WatchOn watch, BigDecimal before, BigDecimal after, int ticks) {
        BigDecimal want = BigDecimal.valueOf(ticks).multiply(watch.level.subtract(before).abs());
        BigDecimal way = after.subtract(before).abs();
        int t = 0;
        while (BigDecimal.valueOf(t).multiply(way).compareTo(want) < 0) {
            t++;
        }
        return t;
    }

    private boolean stoppedByWatches(BigDecimal[] before, int ticks) {
        boolean stopped = false;
        for (int w = 0; w < 4; w++) {
            WatchOn watch = watches[w];
            if (watch == null || !hits(watch, before[watch.i], x[watch.i])) {
                continue;
            }
            int at = time - ticks + ticksToLevel(watch, before[watch.i], x[watch.i], ticks);
            hits.add(new int[] {w, at, units(v[watch.i])});
            if (watch.action == 1) {
                v[watch.i] = v[watch.i].negate();
            }
            if (watch.action == 2) {
                stopped = true;
            }
        }
        return stopped;
    }

    int body(int i, int stiffness, int drag) {
        if (outside(i, 0, n - 1) || outside(stiffness, 0, 64) || outside(drag, 0, 64)) {
            return -1;
        }
        k[i] = BigDecimal.valueOf(stiffness).divide(SIXTEEN);
        c[i] = BigDecimal.valueOf(drag).divide(SIXTEEN);
        return 0;
    }

    int link(int i, int sixteenths) {
        if (outside(i, 0, n - 2) || outside(sixteenths, 0, 64)) {
            return -1;
        }
        q[i] = BigDecimal.valueOf(sixteenths).divide(SIXTEEN);
        return 0;
    }

    int set(int i, int place, int speed) {
        if (outside(i, 0, n - 1) || wrongUnits(place) || wrongUnits(speed)) {
            return -1;
        }
        x[i] = number(place);
        v[i] = number(speed);
        return 0;
    }

    int force(int i, int units) {
        if (outside(i, 0, n - 1) || wrongUnits(units)) {
            return -1;
        }
        f[i] = number(units);
        return 0;
    }

    int tolerance(int units) {
        if (outside(units, 0, 1000000)) {
            return -1;
        }
        tolerance = number(units);
        return 0;
    }

    int watch(int w, int i, int level, boolean up, int action) {
        if (outside(w, 0, 3) || outside(i, 0, n - 1) || wrongUnits(level) || outside(action, -1, 2)) {
            return -1;
        }
        watches[w] = action == -1 ? null : new WatchOn(i, number(level), up, action);
        return 0;
    }

    int advance(int ticks) {
        if (outside(ticks, 1, 2048)) {
            return -1;
        }
        int gone = 0;
        while (gone < ticks) {
            BigDecimal[] before = x;
            int went;
            try {
                went = stride(ticks - gone);
            } catch (Diverges end) {
                return -2;
            }
            gone += went;
            if (stoppedByWatches(before, went)) {
                break;
            }
        }
        return gone;
    }

    int place(int i) {
        return outside(i, 0, n - 1) ? -1 : units(x[i]);
    }

    int speed(int i) {
        return outside(i, 0, n - 1) ? -1 : units(v[i]);
    }

    long push(int i) {
        return outside(i, 0, n - 1) ? -2000000000L
                : pushOn(i, x, v).multiply(BigDecimal.valueOf(16384)).longValueExact();
    }

    int hit(int number, int what) {
        boolean none = outside(number, 0, 39) || number >= hits.size() || outside(what, 0, 2);
        return none ? -2000000000 : hits.get(number)[what];
    }

    int clear() {
        int forgotten = hits.size();
        hits.clear();
        return forgotten;
    }

    int count(int what) {
        int set = 0;
        for (WatchOn watch : watches) {
            set += watch == null ? 0 : 1;
        }
        return switch (what) {
            case 0 -> time;
            case 1 -> s;
            case 2 -> taken;
            case 3 -> rejected;
            case 4 -> hits.size();
            case 5 -> units(latestError);
            case 6 -> n;
            case 7 -> set;
            default -> -1;
        };
    }
}
