/** Promise 1: a new object. */
public final class NewObjectTest {
    private static final Checks CHECKS = new Checks("promise 1");

    public static void main(String[] args) {
        bodiesAreClamped();
        everythingIsZeroAtFirst();
        toleranceIsSixteen();
        CHECKS.sentence("The constants: `NONE = -2000000000`");
        CHECKS.due("DONE", OscillatorRow.DONE, 0);
        CHECKS.due("REFUSED", OscillatorRow.REFUSED, -1);
        CHECKS.due("DIVERGED", OscillatorRow.DIVERGED, -2);
        CHECKS.due("NONE", OscillatorRow.NONE, -2000000000);
        CHECKS.end();
    }

    private static void bodiesAreClamped() {
        CHECKS.sentence("So many bodies, clamped to 1 .. 4");
        int[] asked = {Integer.MIN_VALUE, -1, 0, 1, 2, 3, 4, 5, Integer.MAX_VALUE};
        int[] due = {1, 1, 1, 1, 2, 3, 4, 4, 4};
        for (int n = 0; n < asked.length; n++) {
            OscillatorRow row = new OscillatorRow(asked[n]);
            CHECKS.due("count(6) of " + asked[n], row.count(6), due[n]);
            CHECKS.due("set on the last body of " + asked[n], row.set(due[n] - 1, 1, 1), 0);
            CHECKS.due("set beyond the last body of " + asked[n], row.set(due[n], 1, 1), -1);
        }
    }

    private static void everythingIsZeroAtFirst() {
        CHECKS.sentence("0 at first");
        OscillatorRow row = new OscillatorRow(4);
        for (int i = 0; i < 4; i++) {
            CHECKS.due("place", row.place(i), 0);
            CHECKS.due("speed", row.speed(i), 0);
            CHECKS.due("push", row.push(i), 0);
        }
        int[] due = {0, 0, 0, 0, 0, 0, 4, 0};
        for (int what = 0; what < 8; what++) {
            CHECKS.due("count(" + what + ")", row.count(what), due[what]);
        }
        CHECKS.due("hit(0, 0)", row.hit(0, 0), -2000000000);
        for (int i = 0; i < 4; i++) {
            row.set(i, 1000 * i * i + 7, 500 - i);
            CHECKS.due("push without springs", row.push(i), 0);
        }
    }

    // With stiffness 1 a place of 228 makes an error of 16 in a step of length 1, and 236 one of 17.
    private static void toleranceIsSixteen() {
        CHECKS.sentence("TOLERANCE 16 UNITS");
        OscillatorRow within = new OscillatorRow(1);
        within.body(0, 16, 0);
        within.set(0, 228, 0);
        within.advance(256);
        CHECKS.due("error within", within.count(5), 16);
        CHECKS.due("rejected within", within.count(3), 0);
        OscillatorRow above = new OscillatorRow(1);
        above.body(0, 16, 0);
        above.set(0, 236, 0);
        above.advance(256);
        CHECKS.due("rejected above", above.count(3), 1);
    }
}
