/** Promise 12: hit. */
public final class HitTest {
    private static final Checks CHECKS = new Checks("promise 12");
    private static final int NONE = -2000000000;

    public static void main(String[] args) {
        theTimeIsTheLeastWholeTick();
        theTimeOnOddWays();
        theTimeDoesNotWrapAround();
        theTimeCountsFromTheBeginningOfTheStride();
        theSpeedIsTheOneAtItsTurn();
        thereIsNoSuchHit();
        anotherWhat();
        isNumberedFromZero();
        fortyAreKept();
        whatIsNotKept();
        theFortiethInTheMidstOfAStride();
        CHECKS.end();
    }

    private static int timeOfHit(int from, int to, int level) {
        OscillatorRow row = new OscillatorRow(1);
        row.set(0, from, to - from);
        row.watch(0, 0, level, from < to, 0);
        row.advance(256);
        return row.hit(0, 1);
    }

    private static void theTimeIsTheLeastWholeTick() {
        CHECKS.sentence("the least whole number of ticks t with t * |after - before| not below (the STRIDE's ticks)"
                + " * |level - before|");
        CHECKS.due("just at tick 64", timeOfHit(0, 1024, 256), 64);
        CHECKS.due("just before tick 64", timeOfHit(0, 1024, 255), 64);
        CHECKS.due("just after tick 64", timeOfHit(0, 1024, 257), 65);
        CHECKS.due("at the first tick", timeOfHit(0, 1024, 1), 1);
        CHECKS.due("at the end", timeOfHit(0, 1024, 1024), 256);
        CHECKS.due("downwards", timeOfHit(1024, 0, 767), 65);
        CHECKS.due("below 0", timeOfHit(-1024, -2048, -1281), 65);
        CHECKS.due("a slow body", timeOfHit(0, 2, 1), 128);
    }

    // A force of 2 units, rounded in each of the two half steps, makes odd ways.
    private static void theTimeOnOddWays() {
        CHECKS.sentence("the least whole number of ticks t with t * |after - before| not below (the STRIDE's ticks)"
                + " * |level - before|");
        OscillatorRow slowest = new OscillatorRow(1);
        slowest.force(0, 2);
        slowest.set(0, 0, -1);
        slowest.watch(0, 0, 1, true, 0);
        slowest.advance(256);
        CHECKS.due("a way of 1", slowest.place(0), 1);
        CHECKS.due("its hit at the end", slowest.hit(0, 1), 256);
        OscillatorRow row = new OscillatorRow(1);
        row.force(0, 2);
        row.set(0, 0, 254);
        row.watch(0, 0, 256, true, 0);
        row.advance(256);
        CHECKS.due("a way of 257", row.place(0), 257);
        CHECKS.due("its hit 1/257 of a tick after tick 255", row.hit(0, 1), 256);
    }

    private static void theTimeDoesNotWrapAround() {
        CHECKS.sentence("(the STRIDE's ticks) * |level - before|");
        CHECKS.due("the last unit", timeOfHit(-400000000, 600000000, 599999999), 256);
        CHECKS.due("the first unit", timeOfHit(-400000000, 600000000, -399999999), 1);
        CHECKS.due("the middle, downwards", timeOfHit(500000000, -500000000, 0), 128);
    }

    private static void theTimeCountsFromTheBeginningOfTheStride() {
        CHECKS.sentence("which is the beginning of the STRIDE plus the least whole number of ticks");
        OscillatorRow row = new OscillatorRow(1);
        row.set(0, 0, 1024);
        row.watch(1, 0, 300, true, 0);
        row.watch(2, 0, 90, true, 0);
        row.advance(96);
        CHECKS.due("the stride of 64 ticks, then that of 32", row.count(2), 2);
        CHECKS.due("watch", row.hit(0, 0), 2);
        CHECKS.due("time", row.hit(0, 1), 23);
        CHECKS.due("watch", row.hit(1, 0), 1);
        CHECKS.due("time", row.hit(1, 1), 75);
        row.watch(0, 0, 1024 + 512, true, 0);
        row.advance(160 + 256);
        CHECKS.due("watch", row.hit(2, 0), 0);
        CHECKS.due("time", row.hit(2, 1), 256 + 128);
    }

    private static void theSpeedIsTheOneAtItsTurn() {
        CHECKS.sentence("after what it is when this watch's turn comes");
        OscillatorRow row = new OscillatorRow(1);
        row.set(0, 0, 100);
        row.watch(0, 0, 50, true, 1);
        row.watch(1, 0, 50, true, 1);
        row.watch(2, 0, 50, true, 1);
        row.watch(3, 0, 50, true, 0);
        row.advance(256);
        for (int n = 0; n < 4; n++) {
            CHECKS.due("watch", row.hit(n, 0), n);
            CHECKS.due("speed", row.hit(n, 2), n % 2 == 0 ? 100 : -100);
        }
        CHECKS.due("speed(0)", row.speed(0), -100);
    }

    /** A row with one watch on its body, and so many hits. */
    private static OscillatorRow withHits(int hits) {
        OscillatorRow row = new OscillatorRow(1);
        row.watch(0, 0, 50, true, 0);
        addHits(row, hits);
        return row;
    }

    private static void addHits(OscillatorRow row, int hits) {
        for (int n = 0; n < hits; n++) {
            row.set(0, 0, 100);
            row.advance(256);
        }
    }

    private static void thereIsNoSuchHit() {
        CHECKS.sentence("No such, not kept, another what: NONE.");
        for (int hits = 0; hits <= 2; hits++) {
            OscillatorRow row = withHits(hits);
            for (int what = 0; what <= 2; what++) {
                for (int n = 0; n < hits; n++) {
                    CHECKS.due("hit(" + n + ", " + what + ") is there", row.hit(n, what) != NONE);
                }
                for (int n : new int[] {-1, hits, hits + 1, 39, 40, Integer.MIN_VALUE, Integer.MAX_VALUE}) {
                    CHECKS.due("hit(" + n + ", " + what + ") of " + hits, row.hit(n, what), NONE);
                }
            }
        }
    }

    private static void anotherWhat() {
        CHECKS.sentence("No such, not kept, another what: NONE.");
        OscillatorRow row = withHits(1);
        CHECKS.due("hit(0, 0)", row.hit(0, 0), 0);
        CHECKS.due("hit(0, 1)", row.hit(0, 1), 128);
        CHECKS.due("hit(0, 2)", row.hit(0, 2), 100);
        for (int what : new int[] {-1, 3, Integer.MIN_VALUE, Integer.MAX_VALUE}) {
            CHECKS.due("hit(0, " + what + ")", row.hit(0, what), NONE);
        }
    }

    private static void isNumberedFromZero() {
        CHECKS.sentence("Of HIT number n (from 0): the watch (what 0), the TIME in TICKS (1), the SPEED (2).");
        OscillatorRow row = new OscillatorRow(2);
        row.watch(2, 0, 50, true, 0);
        row.watch(3, 1, -50, false, 0);
        row.set(0, 0, 100);
        row.advance(256);
        row.set(1, 0, -200);
        row.advance(256);
        int[][] due = {{2, 128, 100}, {3, 256 + 64, -200}};
        for (int n = 0; n < due.length; n++) {
            for (int what = 0; what <= 2; what++) {
                CHECKS.due("hit(" + n + ", " + what + ")", row.hit(n, what), due[n][what]);
            }
        }
        CHECKS.due("hit(2, 0)", row.hit(2, 0), NONE);
    }

    private static void whatIsNotKept() {
        CHECKS.sentence("No such, not kept, another what: NONE.");
        OscillatorRow row = withHits(45);
        for (int what = 0; what <= 2; what++) {
            CHECKS.due("hit(39, " + what + ") is kept", row.hit(39, what) != NONE);
            for (int n = 40; n <= 45; n++) {
                CHECKS.due("hit(" + n + ", " + what + ") of 45", row.hit(n, what), NONE);
            }
        }
    }

    private static void fortyAreKept() {
        CHECKS.sentence("At most 40 HITS are kept, all are counted.");
        OscillatorRow row = withHits(39);
        CHECKS.due("count(4)", row.count(4), 39);
        CHECKS.due("the 39th", row.hit(38, 1), 256 * 38 + 128);
        CHECKS.due("no 40th yet", row.hit(39, 1), NONE);
        for (int hits = 40; hits <= 42; hits++) {
            addHits(row, 1);
            CHECKS.due("count(4)", row.count(4), hits);
            CHECKS.due("the first", row.hit(0, 1), 128);
            CHECKS.due("the 40th", row.hit(39, 1), 256 * 39 + 128);
            CHECKS.due("the 41st is not kept", row.hit(40, 1), NONE);
            CHECKS.due("the 42nd is not kept", row.hit(41, 1), NONE);
        }
        for (int n = 0; n < 40; n++) {
            CHECKS.due("watch of " + n, row.hit(n, 0), 0);
            CHECKS.due("time of " + n, row.hit(n, 1), 256 * n + 128);
            CHECKS.due("speed of " + n, row.hit(n, 2), 100);
        }
    }

    private static void theFortiethInTheMidstOfAStride() {
        CHECKS.sentence("At most 40 HITS are kept, all are counted.");
        OscillatorRow row = new OscillatorRow(1);
        for (int w = 0; w < 3; w++) {
            row.watch(w, 0, 50, true, 0);
        }
        for (int n = 1; n <= 14; n++) {
            row.set(0, 0, 100);
            row.advance(256);
            CHECKS.due("count(4)", row.count(4), 3 * n);
        }
        for (int n = 0; n < 40; n++) {
            CHECKS.due("watch of " + n, row.hit(n, 0), n % 3);
            CHECKS.due("time of " + n, row.hit(n, 1), 256 * (n / 3) + 128);
            CHECKS.due("speed of " + n, row.hit(n, 2), 100);
        }
        CHECKS.due("not kept", row.hit(40, 0), NONE);
        CHECKS.due("not kept", row.hit(41, 1), NONE);
    }
}
