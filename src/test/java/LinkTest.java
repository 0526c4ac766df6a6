/** Promise 3: link. */
public final class LinkTest {
    private static final Checks CHECKS = new Checks("promise 3");

    public static void main(String[] args) {
        linksABodyWithTheNext();
        thereIsALinkLessThanBodies();
        theEndsAreFree();
        theEndsStayFreeOnTheWay();
        theLeastAndTheMost();
        refusesWhatIsOutOfRange();
        CHECKS.end();
    }

    private static OscillatorRow threeBodies() {
        OscillatorRow row = new OscillatorRow(3);
        row.set(0, 100, 9);
        row.set(1, 300, 9);
        row.set(2, 1000, 9);
        return row;
    }

    private static void linksABodyWithTheNext() {
        CHECKS.sentence("Sets the LINK between body i (0 .. n - 2) and the next one");
        OscillatorRow row = threeBodies();
        CHECKS.due("link(0, 5)", row.link(0, 5), 0);
        CHECKS.due("push(0)", row.push(0), 5 * 200);
        CHECKS.due("push(1)", row.push(1), -5 * 200);
        CHECKS.due("push(2)", row.push(2), 0);
        CHECKS.due("link(1, 2)", row.link(1, 2), 0);
        CHECKS.due("push(0)", row.push(0), 5 * 200);
        CHECKS.due("push(1)", row.push(1), 2 * 700 - 5 * 200);
        CHECKS.due("push(2)", row.push(2), -2 * 700);
    }

    private static void thereIsALinkLessThanBodies() {
        CHECKS.sentence("Sets the LINK between body i (0 .. n - 2) and the next one");
        for (int n = 1; n <= 4; n++) {
            OscillatorRow row = new OscillatorRow(n);
            for (int i = -2; i <= 5; i++) {
                CHECKS.due("link(" + i + ", 1) of " + n + " bodies", row.link(i, 1), i >= 0 && i <= n - 2 ? 0 : -1);
            }
        }
    }

    // A link to something at 0 beyond an end would pull the bodies, which are all at one place.
    private static void theEndsAreFree() {
        CHECKS.sentence("q(-1) and q(n - 1) count as 0");
        for (int n = 1; n <= 4; n++) {
            OscillatorRow row = new OscillatorRow(n);
            for (int i = -1; i <= n; i++) {
                row.set(i, 1024, 0);
                row.link(i, 64);
            }
            for (int i = 0; i < n; i++) {
                CHECKS.due("push(" + i + ") of " + n + " bodies", row.push(i), 0);
            }
            row.set(0, 2048, 0);
            CHECKS.due("push(0) of " + n + " bodies", row.push(0), n == 1 ? 0 : -4 * 16384);
            row.set(0, 1024, 0);
            row.set(n - 1, 2048, 0);
            CHECKS.due("push(" + (n - 1) + ") of " + n + " bodies", row.push(n - 1), n == 1 ? 0 : -4 * 16384);
        }
    }

    private static void theEndsStayFreeOnTheWay() {
        CHECKS.sentence("q(-1) and q(n - 1) count as 0");
        for (int n = 1; n <= 4; n++) {
            OscillatorRow row = new OscillatorRow(n);
            for (int i = 0; i < n; i++) {
                row.set(i, 1024, 256);
                row.link(i, 64);
            }
            row.advance(2048);
            for (int i = 0; i < n; i++) {
                CHECKS.due("place(" + i + ") of " + n + " bodies", row.place(i), 1024 + 2048);
                CHECKS.due("speed(" + i + ") of " + n + " bodies", row.speed(i), 256);
            }
        }
    }

    private static void theLeastAndTheMost() {
        CHECKS.sentence("a LINK q(i) (0 .. 64, sixteenths)");
        for (int i = 0; i < 3; i++) {
            OscillatorRow row = new OscillatorRow(4);
            row.set(i, 1024, 0);
            CHECKS.due("link(" + i + ", 64)", row.link(i, 64), 0);
            CHECKS.due("a push of -4", row.push(i), -4 * 16384);
            CHECKS.due("a push of 4", row.push(i + 1), 4 * 16384);
            CHECKS.due("link(" + i + ", 0)", row.link(i, 0), 0);
            CHECKS.due("no push", row.push(i), 0);
            CHECKS.due("no push", row.push(i + 1), 0);
        }
    }

    private static void refusesWhatIsOutOfRange() {
        CHECKS.sentence("a LINK q(i) (0 .. 64, sixteenths)");
        OscillatorRow row = threeBodies();
        row.link(0, 5);
        row.link(1, 6);
        String state = Checks.stateOf(row);
        int[][] wrong = {{-1, 1}, {2, 1}, {3, 1}, {0, -1}, {0, 65}, {1, Integer.MIN_VALUE}, {1, Integer.MAX_VALUE},
            {Integer.MIN_VALUE, 1}, {Integer.MAX_VALUE, 1}};
        for (int[] call : wrong) {
            CHECKS.due("link(" + call[0] + ", " + call[1] + ")", row.link(call[0], call[1]), -1);
        }
        CHECKS.due("nothing changed", state.equals(Checks.stateOf(row)));
    }
}
