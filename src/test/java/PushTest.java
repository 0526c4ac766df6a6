/** Promise 11: push. */
public final class PushTest {
    private static final Checks CHECKS = new Checks("promise 11");
    private static final int FAR = 1000000000;

    public static void main(String[] args) {
        allPartsTogether();
        isWholeForTheSmallest();
        doesNotWrapAround();
        thereIsNoSuchBody();
        CHECKS.end();
    }

    private static void allPartsTogether() {
        CHECKS.sentence("The PUSH on the body as it is now, times 16384");
        OscillatorRow row = new OscillatorRow(3);
        row.set(0, 50, 0);
        row.set(1, 70, 11);
        row.set(2, 1000, 0);
        row.body(1, 3, 5);
        row.force(1, 13);
        row.link(0, 17);
        row.link(1, 19);
        CHECKS.due("push(1)", row.push(1), 16 * 13 - 3 * 70 - 5 * 11 + 19 * (1000 - 70) - 17 * (70 - 50));
        CHECKS.due("push(0)", row.push(0), 17 * 20);
        CHECKS.due("push(2)", row.push(2), -19 * 930);
        row.set(1, 0, 0);
        row.advance(1);
        CHECKS.due("as it is now", row.push(0), 17 * (row.place(1) - row.place(0)));
    }

    private static void isWholeForTheSmallest() {
        CHECKS.sentence("times 16384 (which makes it whole)");
        OscillatorRow row = new OscillatorRow(2);
        row.set(0, 1, 0);
        row.body(0, 1, 0);
        CHECKS.due("a sixteenth of a unit", row.push(0), -1);
        row.set(0, 0, -1);
        row.body(0, 0, 1);
        CHECKS.due("a sixteenth of a unit", row.push(0), 1);
        row.set(1, 1, 0);
        row.link(0, 1);
        CHECKS.due("two of them", row.push(0), 2);
        CHECKS.due("the other way", row.push(1), -1);
    }

    private static void doesNotWrapAround() {
        CHECKS.sentence("the PUSH on body i is f(i) - k(i) x(i) - c(i) v(i) + q(i) (x(i + 1) - x(i)) - q(i - 1) (x(i)"
                + " - x(i - 1)), exact");
        for (int way = -1; way <= 1; way += 2) {
            OscillatorRow row = new OscillatorRow(3);
            row.set(0, way * FAR, 0);
            row.set(1, -way * FAR, -way * FAR);
            row.set(2, way * FAR, 0);
            row.body(1, 64, 64);
            row.link(0, 64);
            row.link(1, 64);
            row.force(1, way * FAR);
            CHECKS.due("push(1)", row.push(1), (16L + 64 + 64 + 128 + 128) * way * FAR);
            CHECKS.due("push(0)", row.push(0), -128L * way * FAR);
            CHECKS.due("push(2)", row.push(2), -128L * way * FAR);
            row.body(1, 64, 0);
            row.force(1, 0);
            row.link(0, 0);
            row.link(1, 0);
            CHECKS.due("the stiffness alone", row.push(1), 64L * way * FAR);
            row.body(1, 0, 64);
            CHECKS.due("the drag alone", row.push(1), 64L * way * FAR);
        }
    }

    private static void thereIsNoSuchBody() {
        CHECKS.sentence("NONE if there is no such body");
        for (int n = 1; n <= 4; n++) {
            OscillatorRow row = new OscillatorRow(n);
            for (int i = 0; i < n; i++) {
                CHECKS.due("push(" + i + ")", row.push(i), 0);
            }
            for (int i : new int[] {Integer.MIN_VALUE, -1, n, n + 1, Integer.MAX_VALUE}) {
                CHECKS.due("push(" + i + ")", row.push(i), -2000000000L);
            }
        }
    }
}
