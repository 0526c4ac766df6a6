/** Promise 14: count. */
public final class CountTest {
    private static final Checks CHECKS = new Checks("promise 14");

    public static void main(String[] args) {
        countsEach();
        theErrorIsTheLatestTakenOne();
        noStrideWasTakenYet();
        hitsSinceClear();
        watchesSet();
        anotherWhatIsRefused();
        CHECKS.end();
    }

    private static void countsEach() {
        CHECKS.sentence("TIME in TICKS (0), FINENESS (1), STRIDES taken (2), REJECTED ones (3)");
        OscillatorRow row = new OscillatorRow(3);
        row.body(0, 16, 0);
        row.set(0, 1024, 0);
        row.watch(0, 0, 1000, false, 0);
        row.watch(2, 1, 1000, false, 0);
        row.advance(256);
        int[] due = {256, 1, 2, 1, 1, 10, 3, 2};
        for (int what = 0; what < due.length; what++) {
            CHECKS.due("count(" + what + ")", row.count(what), due[what]);
        }
    }

    private static void theErrorIsTheLatestTakenOne() {
        CHECKS.sentence("the ERROR of the latest STRIDE taken in UNITS (5");
        OscillatorRow row = new OscillatorRow(2);
        row.tolerance(1000000);
        row.body(1, 16, 0);
        row.set(1, 1024, 0);
        row.advance(256);
        CHECKS.due("the speed's error", row.count(5), 72);
        row.body(1, 0, 16);
        row.set(1, 0, 1024);
        row.advance(256);
        CHECKS.due("the place's error", row.count(5), 88);
        row.set(1, 1000000000, 1000000000);
        CHECKS.due("a stride that diverges", row.advance(256), -2);
        CHECKS.due("is not taken", row.count(5), 88);
        row.advance(0);
        CHECKS.due("nor is a refused one", row.count(5), 88);
        row.body(1, 0, 0);
        row.set(1, 0, 1024);
        row.advance(256);
        CHECKS.due("no error", row.count(5), 0);
    }

    private static void noStrideWasTakenYet() {
        CHECKS.sentence("0 if there was none");
        OscillatorRow row = new OscillatorRow(1);
        CHECKS.due("count(5) at first", row.count(5), 0);
        row.body(0, 16, 16);
        row.set(0, 1000000000, 1000000000);
        CHECKS.due("count(5) before a stride", row.count(5), 0);
        row.advance(0);
        CHECKS.due("count(5) after a refused advance", row.count(5), 0);
        row.tolerance(0);
        CHECKS.due("a stride that diverges", row.advance(256), -2);
        CHECKS.due("count(5) after it", row.count(5), 0);
    }

    private static void hitsSinceClear() {
        CHECKS.sentence("HITS since the beginning or clear (4)");
        OscillatorRow row = new OscillatorRow(1);
        row.watch(0, 0, 50, true, 0);
        for (int since = 0; since < 60; since++) {
            CHECKS.due("count(4) since the beginning", row.count(4), since);
            row.set(0, 0, 100);
            row.advance(256);
        }
        row.clear();
        for (int since = 0; since < 60; since++) {
            CHECKS.due("count(4) since clear", row.count(4), since);
            row.set(0, 0, 100);
            row.advance(256);
        }
    }

    private static void watchesSet() {
        CHECKS.sentence("watches set (7)");
        OscillatorRow row = new OscillatorRow(1);
        CHECKS.due("count(7) at first", row.count(7), 0);
        for (int w = 3; w >= 0; w--) {
            row.watch(w, 0, 0, true, 0);
            row.watch(w, 0, 0, false, 2);
            CHECKS.due("count(7)", row.count(7), 4 - w);
        }
        for (int w = 0; w < 4; w++) {
            row.watch(w, 0, 0, true, -1);
            row.watch(w, 0, 0, true, -1);
            CHECKS.due("count(7)", row.count(7), 3 - w);
        }
    }

    private static void anotherWhatIsRefused() {
        CHECKS.sentence("another what: REFUSED");
        OscillatorRow row = new OscillatorRow(1);
        for (int what = 0; what <= 7; what++) {
            CHECKS.due("count(" + what + ") is no refusal", row.count(what) >= 0);
        }
        for (int what : new int[] {-1, 8, 9, Integer.MIN_VALUE, Integer.MAX_VALUE}) {
            CHECKS.due("count(" + what + ")", row.count(what), -1);
        }
    }
}
