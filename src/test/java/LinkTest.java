/** Promise 3: link. */
public final class LinkTest {
    private static final Checks CHECKS = new Checks("promise 3");

    public static void main(String[] args) {
        linksABodyWithTheNext();
        refusesWhatIsOutOfRange();
        CHECKS.due("link(0, 1) of one body", new OscillatorRow(1).link(0, 1), -1);
        CHECKS.due("link(2, 64) of four bodies", new OscillatorRow(4).link(2, 64), 0);
        CHECKS.due("link(3, 64) of four bodies", new OscillatorRow(4).link(3, 64), -1);
        CHECKS.end();
    }

    private static OscillatorRow threeBodies() {
        OscillatorRow row = new OscillatorRow(3);
        row.set(0, 100, 9);
        row.set(1, 300, 9);
        row.set(2, 1000, 9);
        return row;
    }

    private static void linksABodyWithTheNext() {
        OscillatorRow row = threeBodies();
        CHECKS.due("link(0, 64)", row.link(0, 64), 0);
        CHECKS.due("push(0)", row.push(0), 64 * 200);
        CHECKS.due("push(1)", row.push(1), -64 * 200);
        CHECKS.due("push(2)", row.push(2), 0);
        CHECKS.due("link(1, 2)", row.link(1, 2), 0);
        CHECKS.due("push(0)", row.push(0), 64 * 200);
        CHECKS.due("push(1)", row.push(1), 2 * 700 - 64 * 200);
        CHECKS.due("push(2)", row.push(2), -2 * 700);
        CHECKS.due("link(0, 0)", row.link(0, 0), 0);
        CHECKS.due("push(0)", row.push(0), 0);
        CHECKS.due("push(1)", row.push(1), 2 * 700);
    }

    private static void refusesWhatIsOutOfRange() {
        OscillatorRow row = threeBodies();
        row.link(0, 5);
        row.link(1, 6);
        String state = Checks.stateOf(row);
        int[][] wrong = {{-1, 1}, {2, 1}, {3, 1}, {0, -1}, {0, 65}, {1, Integer.MIN_VALUE}, {1, Integer.MAX_VALUE},
            {Integer.MIN_VALUE, 1}, {Integer.MAX_VALUE, 1}};
        for (int[] call : wrong) {
            CHECKS.due("link(" + call[0] + ", " + call[1] + ")", row.link(call[0], call[1]), -1);
        }
        CHECKS.due("nothing changed", state.equals(Checks.stateOf(row)));
    }
}
