/** Promise 8: advance. FinenessTest has the lengths of its strides, DivergeTest the strides that diverge. */
public final class AdvanceTest {
    private static final Checks CHECKS = new Checks("promise 8");

    public static void main(String[] args) {
        goesSoManyTicks();
        refusesOtherTicks();
        roundsHalvesUpwards();
        stepsWithLinks();
        stopsAfterTheStrideOfTheHit();
        CHECKS.end();
    }

    private static void goesSoManyTicks() {
        CHECKS.sentence("Goes forward by so many TICKS (1 .. 2048)");
        OscillatorRow row = new OscillatorRow(4);
        int[] ticks = {1, 2048, 255, 2, 256, 7, 2047, 1};
        int time = 0;
        for (int t : ticks) {
            CHECKS.due("advance(" + t + ")", row.advance(t), t);
            time += t;
            CHECKS.due("time", row.count(0), time);
        }
        // As far as an object's 512 calls go.
        OscillatorRow longest = new OscillatorRow(1);
        longest.set(0, 0, 256);
        for (int n = 0; n < 509; n++) {
            longest.advance(2048);
        }
        CHECKS.due("time", longest.count(0), 509 * 2048);
        CHECKS.due("a unit a tick", longest.place(0), 509 * 2048);
    }

    private static void refusesOtherTicks() {
        CHECKS.sentence("Goes forward by so many TICKS (1 .. 2048)");
        OscillatorRow row = new OscillatorRow(1);
        row.set(0, 5, 100);
        row.watch(0, 0, 6, true, 0);
        row.advance(100);
        String state = Checks.stateOf(row);
        for (int ticks : new int[] {0, -1, 2049, Integer.MIN_VALUE, Integer.MAX_VALUE}) {
            CHECKS.due("advance(" + ticks + ")", row.advance(ticks), -1);
        }
        CHECKS.due("nothing changed", state.equals(Checks.stateOf(row)));
    }

    private static void roundsHalvesUpwards() {
        CHECKS.sentence("the greatest multiple of 1/1024 not above y + 1/2048");
        OscillatorRow row = new OscillatorRow(2);
        row.tolerance(1000);
        row.force(0, 2);
        row.force(1, -2);
        row.advance(256);
        // Two steps of 1/2: w = 1/2 unit, rounded to 1; y = 1/2, rounded to 1; u = 1 + 1/2, rounded to 2;
        // then w = 2 + 1/2, rounded to 3; y = 1 + 3/2, rounded to 3; u = 3 + 1/2, rounded to 4.
        CHECKS.due("place(0)", row.place(0), 3);
        CHECKS.due("speed(0)", row.speed(0), 4);
        // w = -1/2, rounded to 0; y = 0; u = -1/2, rounded to 0; and so again.
        CHECKS.due("place(1)", row.place(1), 0);
        CHECKS.due("speed(1)", row.speed(1), 0);
        // Just below a half on either side: a speed of -3 goes by -3/2, rounded to -1, and a force of
        // -3 by -3/4 of a unit, rounded to -1.
        OscillatorRow below = new OscillatorRow(2);
        below.tolerance(1000);
        below.set(0, 0, -3);
        below.force(1, -3);
        below.advance(256);
        CHECKS.due("place(0)", below.place(0), -2);
        CHECKS.due("speed(1)", below.speed(1), -4);
        // w = -1, y = -1/2, rounded to 0; u = -2; w = -3, y = -3/2, rounded to -1; u = -4.
        CHECKS.due("place(1)", below.place(1), -1);
    }

    // Only body 1 is away from 0. For a step of 1/2 with links of 1: w = (1/4, -1/2, 1/4), y = (1/8, 3/4, 1/8),
    // u = w + 1/4 (5/8, -5/4, 5/8) = (13/32, -13/16, 13/32); then once more from there.
    private static void stepsWithLinks() {
        CHECKS.sentence("w(i) = ROUNDED(v(i) + h / 2 * PUSH(i) for x and v)");
        OscillatorRow row = new OscillatorRow(3);
        row.tolerance(1000000);
        row.link(0, 16);
        row.link(1, 16);
        row.set(1, 1024, 0);
        CHECKS.due("advance(256)", row.advance(256), 256);
        // w = (18/32, -18/16, 18/32); y = (13/32, 3/16, 13/32); u = w + 1/4 (-7/32, 7/16, -7/32).
        CHECKS.due("place(0)", row.place(0), 13 * 32);
        CHECKS.due("place(1)", row.place(1), 3 * 64);
        CHECKS.due("place(2)", row.place(2), 13 * 32);
        CHECKS.due("speed(0)", row.speed(0), 65 * 8);
        CHECKS.due("speed(1)", row.speed(1), -65 * 16);
        CHECKS.due("speed(2)", row.speed(2), 65 * 8);
    }

    /** A free body that comes up to the level in the stride after so many ticks of a long way. */
    private static OscillatorRow stoppedAt(int level) {
        OscillatorRow row = new OscillatorRow(1);
        row.set(0, 0, 256);
        row.watch(0, 0, level, true, 2);
        return row;
    }

    private static void stopsAfterTheStrideOfTheHit() {
        CHECKS.sentence("STOPPED: it ends there. Answers how many TICKS it went.");
        CHECKS.due("in the first stride", stoppedAt(1).advance(2048), 256);
        CHECKS.due("at the end of the first stride", stoppedAt(256).advance(2048), 256);
        CHECKS.due("at the beginning of the second", stoppedAt(257).advance(2048), 512);
        CHECKS.due("in the last stride", stoppedAt(1800).advance(2048), 2048);
        CHECKS.due("at the very end", stoppedAt(2048).advance(2048), 2048);
        CHECKS.due("not yet", stoppedAt(2049).advance(2048), 2048);
        OscillatorRow row = stoppedAt(300);
        row.advance(2048);
        CHECKS.due("time", row.count(0), 512);
        CHECKS.due("place", row.place(0), 512);
        CHECKS.due("a stop holds for one advance", row.advance(2048), 2048);
    }
}
