/** Promise 7: watch. HitTest has what is noted of a hit. */
public final class WatchTest {
    private static final Checks CHECKS = new Checks("promise 7");
    private static final int FAR = 1000000000;

    public static void main(String[] args) {
        fourWatches();
        upHitsOnlyAcross();
        downHitsOnlyAcross();
        theLeastAndTheMostLevel();
        watchesItsBody();
        isSetAnew();
        isTakenAway();
        isNotTakenAwayByARefusedCall();
        actionZeroDoesNothingMore();
        actionOneTurns();
        actionTwoStopsWhenAllHadTheirTurn();
        refusesWhatIsOutOfRange();
        CHECKS.end();
    }

    private static void fourWatches() {
        CHECKS.sentence("Sets the watch (0 .. 3)");
        for (int w = 0; w < 4; w++) {
            OscillatorRow row = new OscillatorRow(1);
            row.set(0, 0, 100);
            CHECKS.due("watch(" + w + ")", row.watch(w, 0, 50, true, 0), 0);
            CHECKS.due("set", row.count(7), 1);
            row.advance(256);
            CHECKS.due("its hit", row.hit(0, 0), w);
            CHECKS.due("no other", row.count(4), 1);
        }
        for (int w : new int[] {-1, 4, Integer.MIN_VALUE, Integer.MAX_VALUE}) {
            OscillatorRow row = new OscillatorRow(1);
            row.set(0, 0, 100);
            CHECKS.due("watch(" + w + ")", row.watch(w, 0, 50, true, 0), -1);
            CHECKS.due("set", row.count(7), 0);
            row.advance(256);
            CHECKS.due("no hit", row.count(4), 0);
        }
    }

    /** A free body that goes from one place to the other in 256 ticks, in one stride; answers the hits. */
    private static int hitsOf(int from, int to, int level, boolean up) {
        OscillatorRow row = new OscillatorRow(1);
        row.set(0, from, to - from);
        row.watch(0, 0, level, up, 0);
        row.advance(256);
        return row.count(4);
    }

    private static void upHitsOnlyAcross() {
        CHECKS.sentence("was below the level before the STRIDE and is not below it after it (up)");
        CHECKS.due("across", hitsOf(0, 100, 50, true), 1);
        CHECKS.due("onto it", hitsOf(0, 100, 100, true), 1);
        CHECKS.due("to just below it", hitsOf(0, 100, 101, true), 0);
        CHECKS.due("from it", hitsOf(0, 100, 0, true), 0);
        CHECKS.due("from just below it", hitsOf(0, 100, 1, true), 1);
        CHECKS.due("going down", hitsOf(100, 0, 50, true), 0);
        CHECKS.due("at rest on it", hitsOf(50, 50, 50, true), 0);
        CHECKS.due("at rest below it", hitsOf(50, 50, 51, true), 0);
    }

    private static void downHitsOnlyAcross() {
        CHECKS.sentence("or was above and isn't above (down)");
        CHECKS.due("across", hitsOf(100, 0, 50, false), 1);
        CHECKS.due("onto it", hitsOf(100, 0, 0, false), 1);
        CHECKS.due("to just above it", hitsOf(100, 0, -1, false), 0);
        CHECKS.due("from it", hitsOf(100, 0, 100, false), 0);
        CHECKS.due("from just above it", hitsOf(100, 0, 99, false), 1);
        CHECKS.due("going up", hitsOf(0, 100, 50, false), 0);
        CHECKS.due("at rest on it", hitsOf(50, 50, 50, false), 0);
        CHECKS.due("at rest above it", hitsOf(50, 50, 49, false), 0);
    }

    private static void theLeastAndTheMostLevel() {
        CHECKS.sentence("a level -1000000000 .. 1000000000 UNITS");
        CHECKS.due("the most, up", hitsOf(FAR - 1, FAR + 1, FAR, true), 1);
        CHECKS.due("the least, down", hitsOf(1 - FAR, -1 - FAR, -FAR, false), 1);
        for (int level : new int[] {FAR + 1, -FAR - 1, Integer.MIN_VALUE, Integer.MAX_VALUE}) {
            OscillatorRow row = new OscillatorRow(1);
            CHECKS.due("watch(0, 0, " + level + ", up, 0)", row.watch(0, 0, level, true, 0), -1);
            CHECKS.due("watch(0, 0, " + level + ", down, 0)", row.watch(0, 0, level, false, 0), -1);
            CHECKS.due("set", row.count(7), 0);
        }
    }

    private static void watchesItsBody() {
        CHECKS.sentence("for the watches in order");
        OscillatorRow row = new OscillatorRow(3);
        row.set(0, 0, 100);
        row.set(1, 0, 200);
        row.set(2, 0, 300);
        row.watch(2, 0, 150, true, 0);
        row.watch(1, 1, 150, true, 0);
        row.watch(0, 2, 150, true, 0);
        row.advance(256);
        CHECKS.due("hits", row.count(4), 2);
        CHECKS.due("the first", row.hit(0, 0), 0);
        CHECKS.due("its speed", row.hit(0, 2), 300);
        CHECKS.due("its time", row.hit(0, 1), 128);
        CHECKS.due("the second", row.hit(1, 0), 1);
        CHECKS.due("its speed", row.hit(1, 2), 200);
        CHECKS.due("its time", row.hit(1, 1), 192);
    }

    private static void isSetAnew() {
        CHECKS.sentence("Sets the watch (0 .. 3): body i, a level -1000000000 .. 1000000000 UNITS, up or else down");
        OscillatorRow row = new OscillatorRow(2);
        row.set(0, 0, 100);
        row.set(1, 100, -100);
        CHECKS.due("watch", row.watch(3, 0, 50, true, 2), 0);
        CHECKS.due("set anew", row.watch(3, 1, 75, false, 0), 0);
        CHECKS.due("set", row.count(7), 1);
        CHECKS.due("it does not stop any more", row.advance(512), 512);
        CHECKS.due("hits", row.count(4), 1);
        CHECKS.due("the other body's, down to the other level", row.hit(0, 1), 64);
        CHECKS.due("its speed", row.hit(0, 2), -100);
    }

    private static void isTakenAway() {
        CHECKS.sentence("or takes it away (ACTION -1, the rest in range too)");
        OscillatorRow row = new OscillatorRow(2);
        row.watch(3, 0, 50, true, 2);
        row.watch(1, 1, 50, true, 2);
        CHECKS.due("set", row.count(7), 2);
        CHECKS.due("take it away", row.watch(3, 1, 7, false, -1), 0);
        CHECKS.due("set", row.count(7), 1);
        CHECKS.due("take away what is not there", row.watch(2, 0, -FAR, true, -1), 0);
        CHECKS.due("set", row.count(7), 1);
        row.set(0, 0, 100);
        CHECKS.due("advance(512)", row.advance(512), 512);
        CHECKS.due("no hit", row.count(4), 0);
        row.set(1, 0, 100);
        CHECKS.due("the other one stays", row.advance(512), 256);
        CHECKS.due("its hit", row.hit(0, 0), 1);
    }

    private static void isNotTakenAwayByARefusedCall() {
        CHECKS.sentence("or takes it away (ACTION -1, the rest in range too)");
        OscillatorRow row = new OscillatorRow(2);
        row.set(0, 0, 100);
        row.set(1, 0, 100);
        row.watch(0, 0, 50, true, 0);
        int[][] wrong = {{4, 0, 0, -1}, {-1, 0, 0, -1}, {0, 2, 0, -1}, {0, -1, 0, -1}, {0, 1, FAR + 1, -1},
            {0, 1, -FAR - 1, -1}, {0, 1, 70, -2}, {0, 1, 70, 3}};
        for (int[] call : wrong) {
            CHECKS.due("watch(" + call[0] + ", " + call[1] + ", " + call[2] + ", down, " + call[3] + ")",
                    row.watch(call[0], call[1], call[2], false, call[3]), -1);
            CHECKS.due("set", row.count(7), 1);
        }
        row.advance(256);
        CHECKS.due("hits", row.count(4), 1);
        CHECKS.due("at the old level", row.hit(0, 1), 128);
    }

    private static void actionZeroDoesNothingMore() {
        CHECKS.sentence("ACTION 0: nothing more.");
        OscillatorRow row = new OscillatorRow(1);
        row.set(0, 0, 100);
        row.watch(0, 0, 50, true, 0);
        CHECKS.due("advance(512)", row.advance(512), 512);
        CHECKS.due("it goes on", row.place(0), 200);
        CHECKS.due("as fast", row.speed(0), 100);
        CHECKS.due("hits", row.count(4), 1);
    }

    private static void actionOneTurns() {
        CHECKS.sentence("1: the body's SPEED is turned (times -1).");
        OscillatorRow row = new OscillatorRow(2);
        row.set(0, 0, 100);
        row.set(1, 0, 100);
        row.watch(0, 0, 50, true, 1);
        CHECKS.due("advance(512)", row.advance(512), 512);
        CHECKS.due("there and back", row.place(0), 0);
        CHECKS.due("turned", row.speed(0), -100);
        CHECKS.due("the other one goes on", row.place(1), 200);
        CHECKS.due("one hit", row.count(4), 1);
        CHECKS.due("the speed before the turn", row.hit(0, 2), 100);
        OscillatorRow down = new OscillatorRow(1);
        down.set(0, FAR, -FAR);
        down.watch(0, 0, 0, false, 1);
        CHECKS.due("advance(512)", down.advance(512), 512);
        CHECKS.due("the greatest speed too", down.speed(0), FAR);
        CHECKS.due("there and back", down.place(0), FAR);
    }

    private static void actionTwoStopsWhenAllHadTheirTurn() {
        CHECKS.sentence("2: the advance is STOPPED when all watches had their turn.");
        OscillatorRow row = new OscillatorRow(1);
        row.set(0, 0, 100);
        row.watch(0, 0, 150, true, 2);
        row.watch(1, 0, 151, true, 1);
        row.watch(3, 0, 152, true, 2);
        CHECKS.due("advance(2048)", row.advance(2048), 512);
        CHECKS.due("time", row.count(0), 512);
        CHECKS.due("hits", row.count(4), 3);
        CHECKS.due("turned after the stop", row.speed(0), -100);
        CHECKS.due("goes on", row.advance(256), 256);
        CHECKS.due("place", row.place(0), 100);
        OscillatorRow last = new OscillatorRow(1);
        last.set(0, 0, 100);
        last.watch(0, 0, 50, true, 2);
        last.watch(3, 0, 50, true, 0);
        CHECKS.due("a watch after it that does not stop", last.advance(2048), 256);
    }

    private static void refusesWhatIsOutOfRange() {
        CHECKS.sentence("ACTION 0 .. 2");
        OscillatorRow row = new OscillatorRow(2);
        int[][] wrong = {{0, -1, 0, 0}, {0, 2, 0, 0}, {0, 0, 0, -2}, {0, 0, 0, 3}, {0, Integer.MIN_VALUE, 0, 0},
            {0, Integer.MAX_VALUE, 0, 0}, {0, 0, 0, Integer.MIN_VALUE}, {0, 0, 0, Integer.MAX_VALUE}};
        for (int[] call : wrong) {
            CHECKS.due("watch(" + call[0] + ", " + call[1] + ", " + call[2] + ", up, " + call[3] + ")",
                    row.watch(call[0], call[1], call[2], true, call[3]), -1);
            CHECKS.due("set", row.count(7), 0);
        }
        for (int action = 0; action <= 2; action++) {
            CHECKS.due("action " + action, row.watch(action, 1, 0, true, action), 0);
            CHECKS.due("set", row.count(7), action + 1);
        }
    }
}
