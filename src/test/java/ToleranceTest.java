/** Promise 6: tolerance. */
public final class ToleranceTest {
    private static final Checks CHECKS = new Checks("promise 6");

    public static void main(String[] args) {
        rejectsOnlyAboveIt();
        coarsensUpToAnEighthOfIt();
        zeroGoesToTheFinest();
        refusesWhatIsOutOfRange();
        CHECKS.end();
    }

    // Stiffness 1 and place 236: an error of 17 in a step of length 1.
    private static OscillatorRow errorOf17() {
        OscillatorRow row = new OscillatorRow(1);
        row.body(0, 16, 0);
        row.set(0, 236, 0);
        return row;
    }

    private static void rejectsOnlyAboveIt() {
        OscillatorRow row = errorOf17();
        CHECKS.due("tolerance(17)", row.tolerance(17), 0);
        row.advance(256);
        CHECKS.due("not rejected", row.count(3), 0);
        CHECKS.due("one stride", row.count(2), 1);
        CHECKS.due("the error", row.count(5), 17);
        CHECKS.due("the finer outcome's place", row.place(0), 126);
        CHECKS.due("the finer outcome's speed", row.speed(0), -194);
        row = errorOf17();
        row.tolerance(16);
        row.advance(256);
        CHECKS.due("rejected", row.count(3), 1);
        CHECKS.due("two strides", row.count(2), 2);
    }

    // A speed of 1 and a drag of 1: a step of length 1/2 makes an error of 24.
    private static OscillatorRow errorOf24() {
        OscillatorRow row = new OscillatorRow(1);
        row.body(0, 0, 16);
        row.set(0, 0, 1024);
        return row;
    }

    private static void coarsensUpToAnEighthOfIt() {
        OscillatorRow row = errorOf24();
        row.tolerance(8 * 24);
        CHECKS.due("advance(128)", row.advance(128), 128);
        CHECKS.due("the error", row.count(5), 24);
        CHECKS.due("coarser", row.count(1), 0);
        row = errorOf24();
        row.tolerance(8 * 24 - 1);
        CHECKS.due("advance(128)", row.advance(128), 128);
        CHECKS.due("the error", row.count(5), 24);
        CHECKS.due("not coarser", row.count(1), 1);
    }

    private static void zeroGoesToTheFinest() {
        OscillatorRow row = new OscillatorRow(1);
        row.body(0, 64, 0);
        row.set(0, 400000000, 0);
        CHECKS.due("tolerance(0)", row.tolerance(0), 0);
        CHECKS.due("advance(1)", row.advance(1), 1);
        CHECKS.due("fineness", row.count(1), 8);
        CHECKS.due("taken with an error", row.count(5) > 0);
        CHECKS.due("rejected", row.count(3), 0);
        CHECKS.due("advance(256)", row.advance(256), 256);
        CHECKS.due("strides", row.count(2), 257);
        CHECKS.due("rejected", row.count(3), 0);
        row = new OscillatorRow(1);
        row.body(0, 64, 0);
        row.set(0, 400000000, 0);
        row.tolerance(0);
        row.advance(256);
        CHECKS.due("each rejection counts", row.count(3), 8);
        CHECKS.due("strides", row.count(2), 256);
    }

    private static void refusesWhatIsOutOfRange() {
        OscillatorRow row = errorOf17();
        row.tolerance(17);
        CHECKS.due("tolerance(-1)", row.tolerance(-1), -1);
        CHECKS.due("tolerance(1000001)", row.tolerance(1000001), -1);
        CHECKS.due("tolerance(least)", row.tolerance(Integer.MIN_VALUE), -1);
        CHECKS.due("tolerance(most)", row.tolerance(Integer.MAX_VALUE), -1);
        row.advance(256);
        CHECKS.due("17 still stands", row.count(3), 0);
        CHECKS.due("17 still stands", row.count(5), 17);
        CHECKS.due("tolerance(1000000)", row.tolerance(1000000), 0);
    }
}
