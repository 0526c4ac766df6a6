/** A step that diverges, and what that does to advance (promise 8). */
public final class DivergeTest {
    private static final Checks CHECKS = new Checks("promise 8");
    private static final int MOST = 1000000000;
    private static final int MILLION = 1024000000;

    public static void main(String[] args) {
        aMillionIsReached();
        eachNumberOfEachStep();
        everyBodyCounts();
        theFullStepAlone();
        rejectionsBeforeItStay();
        whatWasBeforeStays();
        nothingWasTaken();
        CHECKS.end();
    }

    private static void aMillionIsReached() {
        CHECKS.sentence("If in a STEP a w, y or u is above 1000000 or below -1000000, the STEP DIVERGES.");
        for (int way = -1; way <= 1; way += 2) {
            OscillatorRow row = new OscillatorRow(1);
            row.set(0, way * MOST, way * 24000000);
            CHECKS.due("to a million", row.advance(256), 256);
            CHECKS.due("place(0)", row.place(0), way * MILLION);
            CHECKS.due("beyond it", row.advance(256), -2);
            CHECKS.due("place(0)", row.place(0), way * MILLION);
            row.set(0, -way * MOST, way * MOST);
            row.force(0, way * 24000000);
            CHECKS.due("to a speed of a million", row.advance(256), 256);
            CHECKS.due("speed(0)", row.speed(0), way * MILLION);
            CHECKS.due("beyond it", row.advance(256), -2);
            CHECKS.due("speed(0)", row.speed(0), way * MILLION);
        }
    }

    /**
     * Stiffness, drag, place, speed and force with which one number alone of a stride of 256 ticks is just at
     * a million or minus a million, then with which it is a unit beyond it, all others being within. A search
     * found them. There are none for the first half step's w and u: the full step's w, and the second half
     * step's, go beyond whenever these do.
     */
    private static final int[][] EDGES = {
        {32, 3, -47000000, 589000000, 886437500, 32, 3, -47000000, 589000000, 886437502},
        {4, 0, 265000000, -946375000, -89000000, 4, 0, 265000000, -946375001, -89000000},
        {48, 0, 72000001, 776000000, 568000000, 48, 0, 71999999, 776000000, 568000000},
        {4, 8, -358000000, -552333333, -593000000, 4, 8, -358000000, -552333335, -593000000},
        {16, 64, -268000000, 730000000, 16000002, 16, 64, -268000000, 730000000, 15999998},
        {48, 64, -220555555, 22000000, 777000000, 48, 64, -220555556, 22000000, 777000000},
        {32, 3, 835906250, 589000000, 931000000, 32, 3, 835906251, 589000000, 931000000},
        {4, 0, -990000000, -275875000, 584000000, 4, 0, -990000000, -275875002, 584000000},
        {64, 0, -473500000, -217000000, 154000000, 64, 0, -473500001, -217000000, 154000000},
        {32, 16, 816566667, 443000000, -640000000, 32, 16, 816566668, 443000000, -640000000},
        {0, 64, 954750000, 799000000, 277000000, 0, 64, 954750001, 799000000, 277000000},
        {0, 32, -713937500, -440000000, -502000000, 0, 32, -713937501, -440000000, -502000000},
        {4, 0, -990000000, 263492484, 584000000, 4, 0, -990000000, 263492485, 584000000},
        {16, 0, 474000000, 93720589, -835000000, 16, 0, 474000000, 93720586, -835000000},
    };

    private static final String[] EDGE_NAMES = {
        "the full step's w above", "the full step's w below", "the full step's y above", "the full step's y below",
        "the full step's u above", "the full step's u below", "the first half step's y above",
        "the first half step's y below", "the second half step's w above", "the second half step's w below",
        "the second half step's y above", "the second half step's y below", "the second half step's u above",
        "the second half step's u below",
    };

    private static void eachNumberOfEachStep() {
        CHECKS.sentence("One of the three STEPS DIVERGES: so does the STRIDE.");
        for (int n = 0; n < EDGES.length; n++) {
            for (int body = 0; body < 4; body++) {
                String name = EDGE_NAMES[n] + ", body " + body;
                CHECKS.due("not yet: " + name, !firstTryDiverges(EDGES[n], 0, body));
                CHECKS.due(name, firstTryDiverges(EDGES[n], 5, body));
            }
        }
    }

    // A first try that holds is taken or rejected, whatever becomes of the next one.
    private static boolean firstTryDiverges(int[] edge, int from, int body) {
        OscillatorRow row = new OscillatorRow(4);
        row.body(body, edge[from], edge[from + 1]);
        row.set(body, edge[from + 2], edge[from + 3]);
        row.force(body, edge[from + 4]);
        return row.advance(256) == -2 && row.count(3) == 0 && row.count(0) == 0;
    }

    private static void everyBodyCounts() {
        CHECKS.sentence("If in a STEP a w, y or u is above 1000000 or below -1000000, the STEP DIVERGES.");
        for (int bodies = 1; bodies <= 4; bodies++) {
            for (int body = 0; body < bodies; body++) {
                OscillatorRow row = new OscillatorRow(bodies);
                row.set(body, MOST, MOST);
                CHECKS.due("body " + body + " of " + bodies, row.advance(256), -2);
            }
        }
    }

    // Its first speed would be -1200000000; the half steps' is -400000000, and their places are lower.
    private static void theFullStepAlone() {
        CHECKS.sentence("One of the three STEPS DIVERGES: so does the STRIDE.");
        OscillatorRow row = new OscillatorRow(1);
        row.tolerance(0);
        row.body(0, 64, 64);
        row.set(0, 400000000, 400000000);
        CHECKS.due("advance(256)", row.advance(256), -2);
        CHECKS.due("it is not rejected first", row.count(3), 0);
        CHECKS.due("count(1)", row.count(1), 0);
        CHECKS.due("place(0)", row.place(0), 400000000);
        CHECKS.due("speed(0)", row.speed(0), 400000000);
        CHECKS.due("time", row.count(0), 0);
    }

    // Steps of length 1 turn the speed and those of 1/2 take it away: an error far above the tolerance.
    // A step of 1/4 takes half of it away and goes up by 50000000.
    private static void rejectionsBeforeItStay() {
        CHECKS.sentence("s and the number REJECTED are as they came to be");
        OscillatorRow row = new OscillatorRow(1);
        row.tolerance(0);
        row.body(0, 0, 64);
        row.set(0, MOST, 400000000);
        CHECKS.due("advance(256)", row.advance(256), -2);
        CHECKS.due("rejected", row.count(3), 1);
        CHECKS.due("count(1)", row.count(1), 1);
        CHECKS.due("strides", row.count(2), 0);
        CHECKS.due("the error of a rejected try is not one of a stride taken", row.count(5), 0);
        CHECKS.due("place(0)", row.place(0), MOST);
    }

    private static void whatWasBeforeStays() {
        CHECKS.sentence("A STRIDE that DIVERGES isn't taken, and ends it: DIVERGED (what was before stays");
        OscillatorRow row = new OscillatorRow(2);
        row.body(0, 16, 0);
        row.set(0, 1024, 0);
        row.set(1, MOST, 24000000);
        row.watch(0, 1, MOST, false, 0);
        row.watch(1, 0, 1000, false, 0);
        CHECKS.due("advance(2048)", row.advance(2048), -2);
        CHECKS.due("the time of the strides before it", row.count(0), 256);
        CHECKS.due("the place before it", row.place(1), MILLION);
        CHECKS.due("the speed before it", row.speed(1), 24000000);
        CHECKS.due("the place before it", row.place(0), 552);
        CHECKS.due("the hits before it", row.count(4), 1);
        CHECKS.due("strides", row.count(2), 2);
        CHECKS.due("rejected", row.count(3), 1);
        CHECKS.due("count(1)", row.count(1), 1);
        CHECKS.due("the latest error taken", row.count(5), 10);
        String state = Checks.stateOf(row);
        CHECKS.due("again", row.advance(2048), -2);
        CHECKS.due("nothing changed", state.equals(Checks.stateOf(row)));
        CHECKS.due("with 3 ticks left", row.advance(3), -2);
        CHECKS.due("count(1) grew to fit", row.count(1), 7);
        row.set(1, 0, 0);
        CHECKS.due("goes on", row.advance(3), 3);
    }

    private static void nothingWasTaken() {
        CHECKS.sentence("the ERROR of the latest STRIDE taken in UNITS (5; 0 if there was none)");
        OscillatorRow row = new OscillatorRow(1);
        row.set(0, MOST, MOST);
        CHECKS.due("advance(256)", row.advance(256), -2);
        CHECKS.due("count(5)", row.count(5), 0);
        CHECKS.due("count(2)", row.count(2), 0);
        CHECKS.due("count(0)", row.count(0), 0);
    }
}
