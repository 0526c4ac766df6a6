/** Promise 7: watch. */
public final class WatchTest {
    private static final Checks CHECKS = new Checks("promise 7");

    public static void main(String[] args) {
        hitsOnlyAcross();
        watchesItsBody();
        isReplacedAndTakenAway();
        turns();
        stopsWhenAllHadTheirTurn();
        refusesWhatIsOutOfRange();
        refusalKeepsTheWatch();
        CHECKS.end();
    }

    /** A free body that goes from one place to the other in 256 ticks, in one stride; answers the hits. */
    private static int hitsOf(int from, int to, int level, boolean up) {
        OscillatorRow row = new OscillatorRow(1);
        row.set(0, from, to - from);
        row.watch(0, 0, level, up, 0);
        row.advance(256);
        return row.count(4);
    }

    private static void hitsOnlyAcross() {
        CHECKS.due("up across", hitsOf(0, 100, 50, true), 1);
        CHECKS.due("up onto", hitsOf(0, 100, 100, true), 1);
        CHECKS.due("up not to", hitsOf(0, 100, 101, true), 0);
        CHECKS.due("up from the level", hitsOf(0, 100, 0, true), 0);
        CHECKS.due("up from just below", hitsOf(0, 100, 1, true), 1);
        CHECKS.due("up going down", hitsOf(100, 0, 50, true), 0);
        CHECKS.due("down across", hitsOf(100, 0, 50, false), 1);
        CHECKS.due("down onto", hitsOf(100, 0, 0, false), 1);
        CHECKS.due("down not to", hitsOf(100, 0, -1, false), 0);
        CHECKS.due("down from the level", hitsOf(100, 0, 100, false), 0);
        CHECKS.due("down from just above", hitsOf(100, 0, 99, false), 1);
        CHECKS.due("down going up", hitsOf(0, 100, 50, false), 0);
        CHECKS.due("up at rest on it", hitsOf(50, 50, 50, true), 0);
        CHECKS.due("down at rest on it", hitsOf(50, 50, 50, false), 0);
        CHECKS.due("the highest level", hitsOf(999999999, 1000000001, 1000000000, true), 1);
        CHECKS.due("the lowest level", hitsOf(-999999999, -1000000001, -1000000000, false), 1);
    }

    private static void watchesItsBody() {
        OscillatorRow row = new OscillatorRow(3);
        row.set(0, 0, 100);
        row.set(1, 0, 200);
        row.set(2, 0, 300);
        row.watch(2, 0, 150, true, 0);
        row.watch(1, 1, 150, true, 0);
        row.watch(0, 2, 150, true, 0);
        row.advance(256);
        CHECKS.due("hits", row.count(4), 2);
        CHECKS.due("in the watches' order", row.hit(0, 0), 0);
        CHECKS.due("speed", row.hit(0, 2), 300);
        CHECKS.due("time", row.hit(0, 1), 128);
        CHECKS.due("then the next", row.hit(1, 0), 1);
        CHECKS.due("speed", row.hit(1, 2), 200);
        CHECKS.due("time", row.hit(1, 1), 192);
    }

    private static void isReplacedAndTakenAway() {
        OscillatorRow row = new OscillatorRow(1);
        row.set(0, 0, 100);
        CHECKS.due("watch", row.watch(3, 0, 50, true, 2), 0);
        CHECKS.due("set again", row.watch(3, 0, 150, true, 0), 0);
        CHECKS.due("set", row.count(7), 1);
        row.advance(256);
        CHECKS.due("the old level is gone", row.count(4), 0);
        CHECKS.due("take away", row.watch(3, 0, 0, false, -1), 0);
        CHECKS.due("set", row.count(7), 0);
        CHECKS.due("take away what is not there", row.watch(2, 0, 0, false, -1), 0);
        CHECKS.due("set", row.count(7), 0);
        row.advance(256);
        CHECKS.due("place", row.place(0), 200);
        CHECKS.due("no hit", row.count(4), 0);
    }

    private static void turns() {
        OscillatorRow row = new OscillatorRow(2);
        row.set(0, 0, 100);
        row.set(1, 0, 100);
        row.watch(0, 0, 50, true, 1);
        CHECKS.due("advance(512)", row.advance(512), 512);
        CHECKS.due("there and back", row.place(0), 0);
        CHECKS.due("turned", row.speed(0), -100);
        CHECKS.due("the other one goes on", row.place(1), 200);
        CHECKS.due("one hit", row.count(4), 1);
        CHECKS.due("the speed before the turn", row.hit(0, 2), 100);
    }

    private static void stopsWhenAllHadTheirTurn() {
        OscillatorRow row = new OscillatorRow(1);
        row.set(0, 0, 100);
        row.watch(0, 0, 150, true, 2);
        row.watch(1, 0, 151, true, 1);
        CHECKS.due("advance(2048)", row.advance(2048), 512);
        CHECKS.due("time", row.count(0), 512);
        CHECKS.due("hits", row.count(4), 2);
        CHECKS.due("turned after the stop", row.speed(0), -100);
        CHECKS.due("goes on", row.advance(256), 256);
        CHECKS.due("place", row.place(0), 100);
    }

    private static void refusesWhatIsOutOfRange() {
        OscillatorRow row = new OscillatorRow(2);
        int far = 1000000001;
        int[][] wrong = {{-1, 0, 0, 0}, {4, 0, 0, 0}, {0, -1, 0, 0}, {0, 2, 0, 0}, {0, 0, far, 0}, {0, 0, -far, 0},
            {0, 0, 0, -2}, {0, 0, 0, 3}, {4, 0, 0, -1}, {0, 2, 0, -1}, {0, 0, far, -1}, {0, 0, -far, -1},
            {Integer.MIN_VALUE, 0, 0, 0}, {Integer.MAX_VALUE, 0, 0, 0}, {0, Integer.MIN_VALUE, 0, 0},
            {0, 0, Integer.MIN_VALUE, 0}, {0, 0, 0, Integer.MIN_VALUE}, {0, 0, 0, Integer.MAX_VALUE}};
        for (int[] call : wrong) {
            CHECKS.due("watch(" + call[0] + ", " + call[1] + ", " + call[2] + ", up, " + call[3] + ")",
                    row.watch(call[0], call[1], call[2], true, call[3]), -1);
        }
        CHECKS.due("none is set", row.count(7), 0);
        for (int w = 0; w < 4; w++) {
            CHECKS.due("watch(" + w + ")", row.watch(w, 1, 1000000000 - 2000000000 * (w % 2), w < 2, w % 3), 0);
            CHECKS.due("set", row.count(7), w + 1);
        }
    }

    private static void refusalKeepsTheWatch() {
        OscillatorRow row = new OscillatorRow(2);
        row.set(0, 0, 100);
        row.set(1, 0, 100);
        row.watch(0, 0, 50, true, 0);
        row.watch(0, 2, 60, false, -1);
        row.watch(0, 1, 1000000001, false, -1);
        row.watch(0, 1, 70, false, 3);
        CHECKS.due("set", row.count(7), 1);
        row.advance(256);
        CHECKS.due("hit", row.count(4), 1);
        CHECKS.due("at the old level", row.hit(0, 1), 128);
    }
}
