/** Promise 8: advance. */
public final class AdvanceTest {
    private static final Checks CHECKS = new Checks("promise 8");
    private static final int MOST = 1000000000;

    public static void main(String[] args) {
        goesSoManyTicks();
        stridesFitTheTime();
        roundsHalvesUpwards();
        takesTheFinerOutcome();
        divergesBeyondAMillion();
        oneOfTheThreeStepsDiverges();
        rejectionsBeforeDivergingCount();
        divergingKeepsWhatWasBefore();
        refusesWhatIsOutOfRange();
        CHECKS.end();
    }

    private static void goesSoManyTicks() {
        OscillatorRow row = new OscillatorRow(4);
        int[] ticks = {1, 2048, 255, 2, 256, 7};
        int time = 0;
        for (int t : ticks) {
            CHECKS.due("advance(" + t + ")", row.advance(t), t);
            time += t;
            CHECKS.due("time", row.count(0), time);
        }
    }

    private static void stridesFitTheTime() {
        OscillatorRow row = new OscillatorRow(1);
        row.advance(2048);
        CHECKS.due("strides of 256 ticks", row.count(2), 8);
        CHECKS.due("fineness", row.count(1), 0);
        row.advance(3);
        CHECKS.due("2 ticks and 1 tick", row.count(2), 10);
        CHECKS.due("one less than 1 tick's", row.count(1), 7);
        // After 3 ticks no stride of 2 fits. After 4 a coarser stride fits at every second turn only.
        row.advance(253);
        CHECKS.due("1 tick, then 2, 4, 8, 16, 32 and 64 ticks twice each", row.count(2), 23);
        CHECKS.due("one less than 64 ticks'", row.count(1), 1);
        CHECKS.due("nothing rejected", row.count(3), 0);
    }

    // Half a unit is rounded up, for a number below 0 too.
    private static void roundsHalvesUpwards() {
        OscillatorRow row = new OscillatorRow(2);
        row.tolerance(1000);
        row.force(0, 2);
        row.force(1, -2);
        row.advance(256);
        // Two steps of 1/2: w = 1/2 unit, rounded to 1; y = 1/2, rounded to 1; u = 1 + 1/2, rounded to 2;
        // then w = 2 + 1/2, rounded to 3; y = 1 + 3/2, rounded to 3; u = 3 + 1/2, rounded to 4.
        CHECKS.due("place(0)", row.place(0), 3);
        CHECKS.due("speed(0)", row.speed(0), 4);
        // w = -1/2, rounded to 0; y = 0; u = -1/2, rounded to 0; and so again.
        CHECKS.due("place(1)", row.place(1), 0);
        CHECKS.due("speed(1)", row.speed(1), 0);
    }

    private static void takesTheFinerOutcome() {
        OscillatorRow row = new OscillatorRow(1);
        row.tolerance(1000000);
        row.body(0, 16, 0);
        row.set(0, 1024, 0);
        CHECKS.due("advance(256)", row.advance(256), 256);
        CHECKS.due("17/32", row.place(0), 17 * 32);
        CHECKS.due("-105/128", row.speed(0), -105 * 8);
        CHECKS.due("9/128", row.count(5), 9 * 8);
    }

    private static void divergesBeyondAMillion() {
        OscillatorRow up = new OscillatorRow(1);
        up.set(0, MOST, 24000000);
        CHECKS.due("up to a million", up.advance(256), 256);
        CHECKS.due("a million", up.place(0), 1024000000);
        up.set(0, MOST, 24000001);
        CHECKS.due("above a million", up.advance(256), -2);
        OscillatorRow down = new OscillatorRow(2);
        down.set(1, -MOST, -24000000);
        CHECKS.due("down to minus a million", down.advance(256), 256);
        CHECKS.due("minus a million", down.place(1), -1024000000);
        down.set(1, -MOST, -24000001);
        CHECKS.due("below minus a million", down.advance(256), -2);
        OscillatorRow speed = new OscillatorRow(1);
        speed.set(0, -MOST, MOST);
        speed.force(0, 24000000);
        CHECKS.due("a speed of a million", speed.advance(256), 256);
        CHECKS.due("a million", speed.speed(0), 1024000000);
        speed.set(0, -MOST, MOST);
        speed.force(0, 24000004);
        CHECKS.due("a speed above a million", speed.advance(256), -2);
    }

    private static void oneOfTheThreeStepsDiverges() {
        // Only the full step goes beyond: its first speed would be -1200000000.
        oneStepDiverges("the full step", 64, 64, 400000000, 400000000);
        // The full step stays at its place, a half step would go up by 46875000 first.
        oneStepDiverges("the first half step", 6, 0, MOST, 187500000);
        // The full step goes up by 22500000, the half steps by 16875000 and then to 26367188.
        oneStepDiverges("the second half step", 0, 16, MOST, 45000000);
    }

    private static void oneStepDiverges(String which, int stiffness, int drag, int place, int speed) {
        OscillatorRow row = new OscillatorRow(1);
        row.tolerance(0);
        row.body(0, stiffness, drag);
        row.set(0, place, speed);
        CHECKS.due("diverges: " + which, row.advance(256), -2);
        CHECKS.due("not rejected", row.count(3), 0);
        CHECKS.due("fineness", row.count(1), 0);
        CHECKS.due("place", row.place(0), place);
        CHECKS.due("speed", row.speed(0), speed);
        CHECKS.due("time", row.count(0), 0);
    }

    // Steps of length 1 turn the speed and those of 1/2 take it away: an error far above the tolerance.
    // A step of 1/4 takes half of it away and goes up by 50000000.
    private static void rejectionsBeforeDivergingCount() {
        OscillatorRow row = new OscillatorRow(1);
        row.tolerance(0);
        row.body(0, 0, 64);
        row.set(0, MOST, 400000000);
        CHECKS.due("advance(256)", row.advance(256), -2);
        CHECKS.due("rejected", row.count(3), 1);
        CHECKS.due("fineness", row.count(1), 1);
        CHECKS.due("strides", row.count(2), 0);
        CHECKS.due("place", row.place(0), MOST);
    }

    private static void divergingKeepsWhatWasBefore() {
        OscillatorRow row = new OscillatorRow(2);
        row.body(0, 16, 0);
        row.set(0, 1024, 0);
        row.set(1, MOST, 24000000);
        row.watch(0, 1, MOST, false, 0);
        row.watch(1, 0, 1000, false, 0);
        CHECKS.due("advance(2048)", row.advance(2048), -2);
        CHECKS.due("the strides before it stand", row.count(0), 256);
        CHECKS.due("the place before it", row.place(1), 1024000000);
        CHECKS.due("the speed before it", row.speed(1), 24000000);
        CHECKS.due("the place before it", row.place(0), 552);
        CHECKS.due("the hits before it", row.count(4), 1);
        CHECKS.due("strides", row.count(2), 2);
        CHECKS.due("rejected", row.count(3), 1);
        CHECKS.due("fineness", row.count(1), 1);
        CHECKS.due("the latest error taken", row.count(5), 10);
        String state = Checks.stateOf(row);
        CHECKS.due("again", row.advance(2048), -2);
        CHECKS.due("nothing changed", state.equals(Checks.stateOf(row)));
        CHECKS.due("fineness grows to fit", row.advance(3), -2);
        CHECKS.due("fineness", row.count(1), 7);
        row.set(1, 0, 0);
        CHECKS.due("goes on", row.advance(3), 3);
    }

    private static void refusesWhatIsOutOfRange() {
        OscillatorRow row = new OscillatorRow(1);
        row.set(0, 5, 100);
        row.watch(0, 0, 6, true, 0);
        row.advance(100);
        String state = Checks.stateOf(row);
        for (int ticks : new int[] {0, -1, 2049, Integer.MIN_VALUE, Integer.MAX_VALUE}) {
            CHECKS.due("advance(" + ticks + ")", row.advance(ticks), -1);
        }
        CHECKS.due("nothing changed", state.equals(Checks.stateOf(row)));
    }
}
