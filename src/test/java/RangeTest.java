/** Every argument of every call, for 1 to 4 bodies: just inside its range, just outside, and as far as an int goes. */
public final class RangeTest {
    private static final Checks CHECKS = new Checks("every promise");
    private static final int HITS = 3;

    public static void main(String[] args) {
        CHECKS.sentence("Every call first tests its arguments in their order; out of range answers REFUSED.");
        for (int bodies = 1; bodies <= 4; bodies++) {
            for (CallShape shape : CallShape.all(bodies, HITS)) {
                for (int place = 0; place < shape.right().length; place++) {
                    insideIsTaken(bodies, shape, place);
                    outsideIsRefused(bodies, shape, place);
                }
                allOutsideIsRefused(bodies, shape);
            }
        }
        CHECKS.end();
    }

    /** Each body has a place and a speed that are no refusal, and so many hits are kept. */
    private static OscillatorRow rowWithHits(int bodies) {
        OscillatorRow row = new OscillatorRow(bodies);
        for (int i = 0; i < bodies; i++) {
            row.set(i, 0, 100);
        }
        for (int w = 0; w < HITS; w++) {
            row.watch(w, 0, 50, true, 0);
        }
        // The 3 ticks leave a fineness that is not 0.
        row.advance(256);
        row.advance(3);
        return row;
    }

    private static boolean hasAnEmptyRange(CallShape shape) {
        for (int place = 0; place < shape.right().length; place++) {
            if (shape.inside(place).length == 0) {
                return true;
            }
        }
        return false;
    }

    private static void insideIsTaken(int bodies, CallShape shape, int place) {
        if (hasAnEmptyRange(shape)) {
            return;
        }
        for (int value : shape.inside(place)) {
            int[] a = shape.with(place, value);
            OscillatorRow row = rowWithHits(bodies);
            String counts = countsOf(row);
            long answer = shape.call().on(row, a);
            String told = bodies + " bodies: " + shape.told(a);
            CHECKS.due(told + " is in range, not " + shape.refusal(), answer != shape.refusal());
            boolean goes = shape.name().equals("advance");
            CHECKS.due("the way so far stands after " + told, goes || counts.equals(countsOf(row)));
        }
    }

    /** All that only advance and clear change. */
    private static String countsOf(OscillatorRow row) {
        StringBuilder text = new StringBuilder();
        for (int what = 0; what <= 6; what++) {
            text.append(row.count(what)).append(' ');
        }
        for (int n = 0; n < HITS; n++) {
            text.append(row.hit(n, 0)).append(' ').append(row.hit(n, 1)).append(' ').append(row.hit(n, 2)).append(' ');
        }
        return text.toString();
    }

    private static void outsideIsRefused(int bodies, CallShape shape, int place) {
        for (int value : shape.outside(place)) {
            int[] a = shape.with(place, value);
            CHECKS.due(bodies + " bodies: " + shape.told(a), shape.call().on(rowWithHits(bodies), a), shape.refusal());
        }
    }

    private static void allOutsideIsRefused(int bodies, CallShape shape) {
        for (int side = 0; side < 4; side++) {
            int[] a = shape.right().clone();
            for (int place = 0; place < a.length; place++) {
                a[place] = shape.outside(place)[side];
            }
            CHECKS.due(bodies + " bodies: " + shape.told(a), shape.call().on(rowWithHits(bodies), a), shape.refusal());
        }
    }
}
