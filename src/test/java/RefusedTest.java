/**
 * Two rows are made alike and one of them gets a refused call. They must tell the same of themselves,
 * and go the same way afterwards, which shows what no call tells: the tolerance and the watches.
 */
public final class RefusedTest {
    private static final Checks CHECKS = new Checks("every promise");
    private static final int BODIES = 3;
    private static final int HITS = 3;

    public static void main(String[] args) {
        CHECKS.sentence("A refused call changes nothing but what is said.");
        CHECKS.due("hits of the row before the refused call", busyRow().count(4), HITS);
        everyArgumentMatters();
        for (CallShape shape : CallShape.all(BODIES, HITS)) {
            for (int place = 0; place < shape.right().length; place++) {
                for (int value : shape.outside(place)) {
                    changesNothing(shape, shape.with(place, value));
                }
            }
        }
        CHECKS.end();
    }

    /** All springs, forces and watches are set, and the row is in the midst of its way. */
    private static OscillatorRow busyRow() {
        OscillatorRow row = new OscillatorRow(BODIES);
        for (int i = 0; i < BODIES; i++) {
            row.body(i, 20 + 7 * i, 1);
            row.set(i, 30000 - 25000 * i, 7000 * i - 9000);
            row.force(i, 1500 * i - 2000);
        }
        row.link(0, 9);
        row.link(1, 30);
        row.tolerance(40);
        row.watch(0, 0, 100, false, 0);
        row.watch(1, 1, -200, true, 0);
        row.watch(2, 2, -600, false, 1);
        row.watch(3, 0, -400, true, 0);
        row.advance(801);
        return row;
    }

    private static String wayOf(OscillatorRow row) {
        StringBuilder text = new StringBuilder(Checks.stateOf(row));
        for (int n = 0; n < 3; n++) {
            text.append(row.advance(256 + n)).append(' ').append(Checks.stateOf(row));
        }
        return text.toString();
    }

    // Only where the same call in range leads another way would a part of it that was done be seen.
    private static void everyArgumentMatters() {
        String way = wayOf(busyRow());
        for (CallShape shape : CallShape.all(BODIES, HITS)) {
            OscillatorRow row = busyRow();
            shape.call().on(row, shape.right());
            boolean changes = !way.equals(wayOf(row));
            boolean asks = "place speed push hit count".contains(shape.name());
            CHECKS.due(shape.told(shape.right()) + " in range leads another way", changes != asks);
        }
    }

    private static void changesNothing(CallShape shape, int[] a) {
        OscillatorRow row = busyRow();
        String told = shape.told(a);
        CHECKS.due(told, shape.call().on(row, a), shape.refusal());
        CHECKS.due("the same way after " + told, wayOf(busyRow()).equals(wayOf(row)));
    }
}
