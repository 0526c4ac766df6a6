/** Promise 2: body. */
public final class BodyTest {
    private static final Checks CHECKS = new Checks("promise 2");

    public static void main(String[] args) {
        setsStiffnessAndDrag();
        refusesWhatIsOutOfRange();
        CHECKS.end();
    }

    private static void setsStiffnessAndDrag() {
        OscillatorRow row = new OscillatorRow(2);
        row.set(0, 1000, 10);
        row.set(1, 1000, 10);
        CHECKS.due("body(0, 3, 5)", row.body(0, 3, 5), 0);
        CHECKS.due("push(0)", row.push(0), -3 * 1000 - 5 * 10);
        CHECKS.due("push(1)", row.push(1), 0);
        CHECKS.due("body(1, 64, 64)", row.body(1, 64, 64), 0);
        CHECKS.due("push(1)", row.push(1), -64 * 1010);
        CHECKS.due("body(1, 0, 0)", row.body(1, 0, 0), 0);
        CHECKS.due("push(1)", row.push(1), 0);
        CHECKS.due("push(0)", row.push(0), -3050);
    }

    private static void refusesWhatIsOutOfRange() {
        OscillatorRow row = new OscillatorRow(2);
        row.set(0, 1000, 10);
        row.set(1, 2000, 20);
        row.body(0, 3, 5);
        row.body(1, 4, 6);
        String state = Checks.stateOf(row);
        int[][] wrong = {{-1, 1, 1}, {2, 1, 1}, {0, -1, 1}, {0, 65, 1}, {0, 1, -1}, {0, 1, 65},
            {Integer.MIN_VALUE, 1, 1}, {Integer.MAX_VALUE, 1, 1}, {1, Integer.MIN_VALUE, 1}, {1, 1, Integer.MAX_VALUE}};
        for (int[] call : wrong) {
            CHECKS.due("body(" + call[0] + ", " + call[1] + ", " + call[2] + ")", row.body(call[0], call[1], call[2]), -1);
        }
        CHECKS.due("nothing changed", state.equals(Checks.stateOf(row)));
    }
}
