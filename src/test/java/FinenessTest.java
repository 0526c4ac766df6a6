/** The terms FINENESS and STRIDE, which advance (promise 8) goes by. */
public final class FinenessTest {
    private static final Checks CHECKS = new Checks("promise 8");

    public static void main(String[] args) {
        isNeverBelowZero();
        isNeverAboveEight();
        growsIfItsTicksAreMoreThanAreLeft();
        growsIfItsTicksDoNotDivideTheTime();
        stridesFitTheTime();
        halfATickEach();
        takesTheOutcomeOfTheTwoSteps();
        isRejectedOnceForEachTry();
        getsLessAtAnEighthOfTheTolerance();
        CHECKS.end();
    }

    /** A free body that makes no error, and comes to a level that stops it after any stride. */
    private static OscillatorRow stoppedByEveryStride() {
        OscillatorRow row = new OscillatorRow(1);
        row.watch(0, 0, 0, true, 2);
        return row;
    }

    /** Answers how many ticks the next stride goes. */
    private static int nextStride(OscillatorRow row, int left) {
        row.set(0, -1, 1024);
        return row.advance(left);
    }

    private static void isNeverBelowZero() {
        CHECKS.sentence("FINENESS s, 0 .. 8, 0 at first");
        OscillatorRow row = new OscillatorRow(1);
        CHECKS.due("count(1) at first", row.count(1), 0);
        for (int n = 1; n <= 3; n++) {
            row.advance(256);
            CHECKS.due("count(1) after a stride without error", row.count(1), 0);
            CHECKS.due("strides of 256 ticks", row.count(2), n);
        }
    }

    private static OscillatorRow alwaysInError() {
        OscillatorRow row = new OscillatorRow(1);
        row.body(0, 64, 0);
        row.set(0, 400000000, 0);
        row.tolerance(0);
        return row;
    }

    private static void isNeverAboveEight() {
        CHECKS.sentence("FINENESS s, 0 .. 8, 0 at first");
        OscillatorRow row = alwaysInError();
        CHECKS.due("advance(1)", row.advance(1), 1);
        CHECKS.due("count(1)", row.count(1), 8);
        CHECKS.due("a stride with an error is taken", row.count(5) > 0);
        CHECKS.due("nothing was rejected", row.count(3), 0);
        CHECKS.due("advance(256)", row.advance(256), 256);
        CHECKS.due("count(1)", row.count(1), 8);
        CHECKS.due("strides of a tick", row.count(2), 257);
        CHECKS.due("nothing was rejected", row.count(3), 0);
    }

    private static void growsIfItsTicksAreMoreThanAreLeft() {
        CHECKS.sentence("s grows by one as long as its ticks are more than are left");
        for (int left = 1; left <= 2048; left++) {
            int due = Math.min(256, Integer.highestOneBit(left));
            CHECKS.due("the first stride with " + left + " ticks left", nextStride(stoppedByEveryStride(), left), due);
        }
    }

    private static void growsIfItsTicksDoNotDivideTheTime() {
        CHECKS.sentence("or don't divide TIME");
        for (int ticks = 1; ticks <= 128; ticks *= 2) {
            OscillatorRow row = stoppedByEveryStride();
            CHECKS.due("the first stride", nextStride(row, ticks), ticks);
            CHECKS.due("count(1) stands for twice its ticks", 256 >> row.count(1), 2 * ticks);
            CHECKS.due("the stride after it", nextStride(row, 2048), ticks);
            CHECKS.due("the stride after that", nextStride(row, 2048), 2 * ticks);
        }
        OscillatorRow row = stoppedByEveryStride();
        CHECKS.due("at 0", nextStride(row, 256), 256);
        CHECKS.due("at 256", nextStride(row, 128), 128);
        CHECKS.due("at 384", nextStride(row, 2048), 128);
        CHECKS.due("at 512", nextStride(row, 2048), 256);
    }

    private static void stridesFitTheTime() {
        CHECKS.sentence("A STRIDE, with so many TICKS left to go");
        OscillatorRow row = new OscillatorRow(1);
        row.advance(2048);
        CHECKS.due("strides of 256 ticks", row.count(2), 8);
        CHECKS.due("count(1)", row.count(1), 0);
        row.advance(3);
        CHECKS.due("2 ticks and 1 tick", row.count(2), 10);
        CHECKS.due("one less than 1 tick's", row.count(1), 7);
        // After 3 ticks no stride of 2 fits. After 4 a coarser stride fits at every second turn only.
        row.advance(253);
        CHECKS.due("1 tick, then 2, 4, 8, 16, 32 and 64 ticks twice each", row.count(2), 23);
        CHECKS.due("one less than 64 ticks'", row.count(1), 1);
        CHECKS.due("nothing was rejected", row.count(3), 0);
    }

    // A force of 512 units: a step of a tick adds one unit to the speed twice, exactly. One of half a tick adds
    // half a unit twice, which is rounded up each time.
    private static void halfATickEach() {
        CHECKS.sentence("for s = 8 half a TICK each");
        OscillatorRow row = new OscillatorRow(1);
        row.tolerance(0);
        row.force(0, 512);
        CHECKS.due("advance(1)", row.advance(1), 1);
        CHECKS.due("speed(0)", row.speed(0), 4);
        CHECKS.due("the error", row.count(5), 2);
        CHECKS.due("time", row.count(0), 1);
        OscillatorRow place = new OscillatorRow(1);
        place.set(0, 0, 256);
        place.advance(1);
        CHECKS.due("1/2 is rounded up to 1, and 1 + 1/2 to 2", place.place(0), 2);
    }

    private static void takesTheOutcomeOfTheTwoSteps() {
        CHECKS.sentence("Else the outcome of the two STEPS is taken");
        OscillatorRow row = new OscillatorRow(1);
        row.tolerance(1000000);
        row.body(0, 16, 0);
        row.set(0, 1024, 0);
        CHECKS.due("advance(256)", row.advance(256), 256);
        CHECKS.due("17/32", row.place(0), 17 * 32);
        CHECKS.due("-105/128", row.speed(0), -105 * 8);
        CHECKS.due("9/128", row.count(5), 9 * 8);
    }

    private static void isRejectedOnceForEachTry() {
        CHECKS.sentence("If the ERROR is above the TOLERANCE and s is below 8, s grows by one, the STRIDE is"
                + " REJECTED once, and tries again.");
        for (int s = 0; s <= 8; s++) {
            OscillatorRow row = alwaysInError();
            row.advance(256 >> s);
            CHECKS.due("tries rejected from fineness " + s + " on", row.count(3), 8 - s);
            CHECKS.due("count(1)", row.count(1), 8);
            CHECKS.due("strides", row.count(2), 256 >> s);
        }
    }

    /** A speed of 1 and a drag of 1: a step of length 1/2 makes an error of 24. */
    private static OscillatorRow errorOf24(int tolerance) {
        OscillatorRow row = new OscillatorRow(1);
        row.body(0, 0, 16);
        row.set(0, 0, 1024);
        row.tolerance(tolerance);
        row.advance(128);
        CHECKS.due("the error", row.count(5), 24);
        CHECKS.due("strides", row.count(2), 1);
        return row;
    }

    private static void getsLessAtAnEighthOfTheTolerance() {
        CHECKS.sentence("if s is above 0 and the ERROR times 8 is not above the TOLERANCE, s gets less by one");
        CHECKS.due("just an eighth", errorOf24(8 * 24).count(1), 0);
        CHECKS.due("just above an eighth", errorOf24(8 * 24 - 1).count(1), 1);
        OscillatorRow row = new OscillatorRow(1);
        row.tolerance(0);
        row.advance(128);
        CHECKS.due("0 is not above 0", row.count(1), 0);
    }
}
