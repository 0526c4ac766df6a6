/** Promise 14: count. */
public final class CountTest {
    private static final Checks CHECKS = new Checks("promise 14");

    public static void main(String[] args) {
        countsEach();
        theErrorIsTheLatestTakenOne();
        anotherWhatIsRefused();
        CHECKS.end();
    }

    private static void countsEach() {
        OscillatorRow row = new OscillatorRow(3);
        row.body(0, 16, 0);
        row.set(0, 1024, 0);
        row.watch(0, 0, 1000, false, 0);
        row.watch(2, 1, 1000, false, 0);
        row.advance(256);
        int[] due = {256, 1, 2, 1, 1, 10, 3, 2};
        for (int what = 0; what < due.length; what++) {
            CHECKS.due("count(" + what + ")", row.count(what), due[what]);
        }
    }

    private static void theErrorIsTheLatestTakenOne() {
        OscillatorRow row = new OscillatorRow(2);
        row.tolerance(1000000);
        row.body(1, 16, 0);
        row.set(1, 1024, 0);
        row.advance(256);
        CHECKS.due("the speed's error", row.count(5), 72);
        row.body(1, 0, 16);
        row.set(1, 0, 1024);
        row.advance(256);
        CHECKS.due("the place's error", row.count(5), 88);
        row.body(1, 0, 0);
        row.advance(256);
        CHECKS.due("no error", row.count(5), 0);
    }

    private static void anotherWhatIsRefused() {
        OscillatorRow row = new OscillatorRow(1);
        for (int what : new int[] {-1, 8, 9, Integer.MIN_VALUE, Integer.MAX_VALUE}) {
            CHECKS.due("count(" + what + ")", row.count(what), -1);
        }
    }
}
