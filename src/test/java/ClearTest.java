/** Promise 13: clear. */
public final class ClearTest {
    private static final Checks CHECKS = new Checks("promise 13");
    private static final int NONE = -2000000000;

    public static void main(String[] args) {
        answersHowManyThereWere();
        forgetsAll();
        changesNothingElse();
        keepsFortyOnceMore();
        CHECKS.end();
    }

    private static OscillatorRow withHits(int hits) {
        OscillatorRow row = new OscillatorRow(1);
        row.watch(0, 0, 50, true, 0);
        addHits(row, hits, 100);
        return row;
    }

    private static void addHits(OscillatorRow row, int hits, int speed) {
        for (int n = 0; n < hits; n++) {
            row.set(0, 0, speed);
            row.advance(256);
        }
    }

    private static void answersHowManyThereWere() {
        CHECKS.sentence("Answers how many there were.");
        for (int hits : new int[] {0, 1, 39, 40, 41, 100}) {
            OscillatorRow row = withHits(hits);
            CHECKS.due("clear() of " + hits, row.clear(), hits);
            CHECKS.due("clear() again", row.clear(), 0);
        }
    }

    private static void forgetsAll() {
        CHECKS.sentence("Forgets all HITS.");
        for (int hits : new int[] {1, 40, 45}) {
            OscillatorRow row = withHits(hits);
            row.clear();
            CHECKS.due("count(4)", row.count(4), 0);
            for (int n = 0; n < hits; n++) {
                CHECKS.due("hit(" + n + ", 1) of " + hits, row.hit(n, 1), NONE);
            }
        }
    }

    private static void changesNothingElse() {
        CHECKS.sentence("Forgets all HITS.");
        OscillatorRow row = withHits(2);
        row.tolerance(17);
        row.clear();
        int[] due = {512, 0, 2, 0, 0, 0, 1, 1};
        for (int what = 0; what < due.length; what++) {
            CHECKS.due("count(" + what + ")", row.count(what), due[what]);
        }
        CHECKS.due("place(0)", row.place(0), 100);
        CHECKS.due("speed(0)", row.speed(0), 100);
    }

    private static void keepsFortyOnceMore() {
        CHECKS.sentence("HITS since the beginning or clear (4)");
        OscillatorRow row = withHits(45);
        row.clear();
        addHits(row, 1, 200);
        CHECKS.due("count(4)", row.count(4), 1);
        CHECKS.due("numbered from 0 again", row.hit(0, 1), 45 * 256 + 64);
        CHECKS.due("with its speed", row.hit(0, 2), 200);
        CHECKS.due("none after it", row.hit(1, 0), NONE);
        addHits(row, 40, 200);
        CHECKS.due("count(4)", row.count(4), 41);
        CHECKS.due("the 40th", row.hit(39, 1), (45 + 39) * 256 + 64);
        CHECKS.due("the 41st is not kept", row.hit(40, 1), NONE);
        CHECKS.due("clear()", row.clear(), 41);
    }
}
