/** Promise 6: tolerance. FinenessTest has what it does to the strides. */
public final class ToleranceTest {
    private static final Checks CHECKS = new Checks("promise 6");

    public static void main(String[] args) {
        rejectsOnlyAboveIt();
        theLeast();
        theMost();
        refusesWhatIsOutOfRange();
        CHECKS.end();
    }

    // Stiffness 1 and place 236: an error of 17 in a step of length 1.
    private static OscillatorRow errorOf17() {
        OscillatorRow row = new OscillatorRow(1);
        row.body(0, 16, 0);
        row.set(0, 236, 0);
        return row;
    }

    private static void rejectsOnlyAboveIt() {
        CHECKS.sentence("If the ERROR is above the TOLERANCE");
        OscillatorRow row = errorOf17();
        CHECKS.due("tolerance(17)", row.tolerance(17), 0);
        row.advance(256);
        CHECKS.due("not rejected", row.count(3), 0);
        CHECKS.due("one stride", row.count(2), 1);
        CHECKS.due("the error", row.count(5), 17);
        CHECKS.due("the finer outcome's place", row.place(0), 126);
        CHECKS.due("the finer outcome's speed", row.speed(0), -194);
        row = errorOf17();
        row.tolerance(16);
        row.advance(256);
        CHECKS.due("rejected", row.count(3), 1);
        CHECKS.due("two strides", row.count(2), 2);
    }

    // A speed of 1 unit: a step of length 1 goes to 1, two of 1/2 go to 1/2, rounded to 1, and to 3/2, rounded to 2.
    // One of 1/2 goes to 1/2, rounded to 1, two of 1/4 stay at 0. Of length 1/4 all stay: no error.
    private static void theLeast() {
        CHECKS.sentence("Sets the TOLERANCE, 0 .. 1000000 UNITS");
        OscillatorRow row = new OscillatorRow(1);
        CHECKS.due("tolerance(1)", row.tolerance(1), 0);
        row.set(0, 0, 1);
        row.advance(256);
        CHECKS.due("an error of 1 is not above 1", row.count(3), 0);
        CHECKS.due("the error", row.count(5), 1);
        CHECKS.due("place(0)", row.place(0), 2);
        row = new OscillatorRow(1);
        CHECKS.due("tolerance(0)", row.tolerance(0), 0);
        row.set(0, 0, 1);
        row.advance(256);
        CHECKS.due("twice at 0 and once at 128, where the fineness has got less", row.count(3), 3);
        CHECKS.due("four strides of 64 ticks", row.count(2), 4);
        CHECKS.due("the error", row.count(5), 0);
        CHECKS.due("place(0)", row.place(0), 0);
        row = new OscillatorRow(1);
        row.tolerance(0);
        row.set(0, 0, 2);
        row.advance(256);
        CHECKS.due("an error of 0 is not above 0", row.count(3), 0);
        CHECKS.due("place(0)", row.place(0), 2);
    }

    // With stiffness 1 these places make errors of 1000000 and 1000001 in a step of length 1.
    private static void theMost() {
        CHECKS.sentence("Sets the TOLERANCE, 0 .. 1000000 UNITS");
        OscillatorRow row = new OscillatorRow(1);
        CHECKS.due("tolerance(1000000)", row.tolerance(1000000), 0);
        row.body(0, 16, 0);
        row.set(0, 14222219, 0);
        row.advance(256);
        CHECKS.due("an error of 1000000", row.count(5), 1000000);
        CHECKS.due("it is not rejected", row.count(3), 0);
        row = new OscillatorRow(1);
        row.tolerance(1000000);
        row.body(0, 16, 0);
        row.set(0, 14222220, 0);
        row.advance(256);
        CHECKS.due("a greater one is", row.count(3), 1);
        row = new OscillatorRow(1);
        row.tolerance(999999);
        row.body(0, 16, 0);
        row.set(0, 14222219, 0);
        row.advance(256);
        CHECKS.due("it is with less", row.count(3), 1);
    }

    private static void refusesWhatIsOutOfRange() {
        CHECKS.sentence("Sets the TOLERANCE, 0 .. 1000000 UNITS");
        int[] wrong = {-1, 1000001, Integer.MIN_VALUE, Integer.MAX_VALUE};
        for (int units : wrong) {
            OscillatorRow within = errorOf17();
            within.tolerance(17);
            CHECKS.due("tolerance(" + units + ")", within.tolerance(units), -1);
            within.advance(256);
            CHECKS.due("17 still stands", within.count(3), 0);
            OscillatorRow above = errorOf17();
            above.tolerance(16);
            CHECKS.due("tolerance(" + units + ")", above.tolerance(units), -1);
            above.advance(256);
            CHECKS.due("16 still stands", above.count(3), 1);
        }
    }
}
