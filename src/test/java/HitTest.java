/** Promises 12 and 13: hit and clear. */
public final class HitTest {
    private static final Checks CHECKS = new Checks("promises 12, 13");
    private static final int NONE = -2000000000;

    public static void main(String[] args) {
        theTimeIsTheLeastWholeTick();
        theTimeOnOddWays();
        theTimeCountsFromTheBeginningOfTheStride();
        theSpeedIsTheOneAtItsTurn();
        noSuchHit();
        fortyAreKeptAllAreCounted();
        CHECKS.end();
    }

    private static int timeOfHit(int from, int to, int level) {
        OscillatorRow row = new OscillatorRow(1);
        row.set(0, from, to - from);
        row.watch(0, 0, level, from < to, 0);
        row.advance(256);
        return row.hit(0, 1);
    }

    private static void theTimeIsTheLeastWholeTick() {
        CHECKS.due("just at tick 64", timeOfHit(0, 1024, 256), 64);
        CHECKS.due("just before tick 64", timeOfHit(0, 1024, 255), 64);
        CHECKS.due("just after tick 64", timeOfHit(0, 1024, 257), 65);
        CHECKS.due("at the first tick", timeOfHit(0, 1024, 1), 1);
        CHECKS.due("at the end", timeOfHit(0, 1024, 1024), 256);
        CHECKS.due("downwards", timeOfHit(1024, 0, 767), 65);
        CHECKS.due("a slow body", timeOfHit(0, 2, 1), 128);
        CHECKS.due("a fast body", timeOfHit(-400000000, 600000000, 599999999), 256);
        CHECKS.due("a fast body", timeOfHit(-400000000, 600000000, -399999999), 1);
        CHECKS.due("a fast body", timeOfHit(500000000, -500000000, 0), 128);
    }

    // A force of 2 units, rounded in each of the two half steps, makes odd ways.
    private static void theTimeOnOddWays() {
        OscillatorRow slowest = new OscillatorRow(1);
        slowest.force(0, 2);
        slowest.set(0, 0, -1);
        slowest.watch(0, 0, 1, true, 0);
        slowest.advance(256);
        CHECKS.due("a way of 1", slowest.place(0), 1);
        CHECKS.due("its hit at the end", slowest.hit(0, 1), 256);
        OscillatorRow row = new OscillatorRow(1);
        row.force(0, 2);
        row.set(0, 0, 254);
        row.watch(0, 0, 256, true, 0);
        row.advance(256);
        CHECKS.due("a way of 257", row.place(0), 257);
        CHECKS.due("its hit 1/257 of a tick after tick 255", row.hit(0, 1), 256);
    }

    private static void theTimeCountsFromTheBeginningOfTheStride() {
        OscillatorRow row = new OscillatorRow(1);
        row.set(0, 0, 1024);
        row.watch(1, 0, 300, true, 0);
        row.watch(2, 0, 90, true, 0);
        row.advance(96);
        CHECKS.due("the stride of 64 ticks, then that of 32", row.count(2), 2);
        CHECKS.due("watch", row.hit(0, 0), 2);
        CHECKS.due("time", row.hit(0, 1), 23);
        CHECKS.due("watch", row.hit(1, 0), 1);
        CHECKS.due("time", row.hit(1, 1), 75);
        row.watch(0, 0, 1024 + 512, true, 0);
        row.advance(160 + 256);
        CHECKS.due("watch", row.hit(2, 0), 0);
        CHECKS.due("time", row.hit(2, 1), 256 + 128);
    }

    private static void theSpeedIsTheOneAtItsTurn() {
        OscillatorRow row = new OscillatorRow(1);
        row.set(0, 0, 100);
        row.watch(0, 0, 50, true, 1);
        row.watch(1, 0, 50, true, 1);
        row.watch(2, 0, 50, true, 1);
        row.watch(3, 0, 50, true, 0);
        row.advance(256);
        for (int n = 0; n < 4; n++) {
            CHECKS.due("watch", row.hit(n, 0), n);
            CHECKS.due("speed", row.hit(n, 2), n % 2 == 0 ? 100 : -100);
        }
        CHECKS.due("speed(0)", row.speed(0), -100);
    }

    private static void noSuchHit() {
        OscillatorRow row = new OscillatorRow(1);
        row.set(0, 0, 100);
        row.watch(0, 0, 50, true, 0);
        CHECKS.due("none yet", row.hit(0, 0), NONE);
        row.advance(256);
        CHECKS.due("the first", row.hit(0, 0), 0);
        int[][] wrong = {{1, 0}, {-1, 0}, {0, 3}, {0, -1}, {40, 0}, {Integer.MIN_VALUE, 0}, {Integer.MAX_VALUE, 0},
            {0, Integer.MIN_VALUE}, {0, Integer.MAX_VALUE}};
        for (int[] call : wrong) {
            CHECKS.due("hit(" + call[0] + ", " + call[1] + ")", row.hit(call[0], call[1]), NONE);
        }
    }

    private static void fortyAreKeptAllAreCounted() {
        OscillatorRow row = new OscillatorRow(1);
        for (int w = 0; w < 3; w++) {
            row.watch(w, 0, 50, true, 0);
        }
        for (int n = 1; n <= 14; n++) {
            row.set(0, 0, 100);
            row.advance(256);
            CHECKS.due("hits", row.count(4), 3 * n);
        }
        for (int n = 0; n < 40; n++) {
            CHECKS.due("watch of " + n, row.hit(n, 0), n % 3);
            CHECKS.due("time of " + n, row.hit(n, 1), 256 * (n / 3) + 128);
            CHECKS.due("speed of " + n, row.hit(n, 2), 100);
        }
        CHECKS.due("not kept", row.hit(40, 0), NONE);
        CHECKS.due("not kept", row.hit(41, 1), NONE);
        CHECKS.due("clear()", row.clear(), 42);
        CHECKS.due("clear() again", row.clear(), 0);
        CHECKS.due("forgotten", row.count(4), 0);
        CHECKS.due("forgotten", row.hit(0, 0), NONE);
        CHECKS.due("forgotten", row.hit(39, 2), NONE);
        CHECKS.due("the watches stay", row.count(7), 3);
        CHECKS.due("the time stays", row.count(0), 14 * 256);
        row.set(0, 0, 200);
        row.advance(256);
        CHECKS.due("numbered from 0 again", row.hit(0, 1), 14 * 256 + 64);
        CHECKS.due("numbered from 0 again", row.hit(2, 2), 200);
        CHECKS.due("none after them", row.hit(3, 0), NONE);
    }
}
