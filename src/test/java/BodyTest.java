/** Promise 2: body. */
public final class BodyTest {
    private static final Checks CHECKS = new Checks("promise 2");

    public static void main(String[] args) {
        setsStiffnessAndDrag();
        theLeastAndTheMost();
        refusesWhatIsOutOfRange();
        CHECKS.end();
    }

    private static void setsStiffnessAndDrag() {
        CHECKS.sentence("Sets the body's STIFFNESS and DRAG. DONE.");
        OscillatorRow row = new OscillatorRow(2);
        row.set(0, 1000, 10);
        row.set(1, 1000, 10);
        CHECKS.due("body(0, 3, 5)", row.body(0, 3, 5), 0);
        CHECKS.due("push(0)", row.push(0), -3 * 1000 - 5 * 10);
        CHECKS.due("push(1)", row.push(1), 0);
        CHECKS.due("body(1, 2, 1)", row.body(1, 2, 1), 0);
        CHECKS.due("push(1)", row.push(1), -2 * 1000 - 10);
        CHECKS.due("push(0)", row.push(0), -3050);
    }

    private static void theLeastAndTheMost() {
        CHECKS.sentence("a STIFFNESS k and a DRAG c (0 .. 64, sixteenths)");
        OscillatorRow row = new OscillatorRow(4);
        for (int i = 0; i < 4; i++) {
            // A place of 1 and a speed of -2.
            row.set(i, 1024, -2048);
            CHECKS.due("body(i, 64, 0)", row.body(i, 64, 0), 0);
            CHECKS.due("a push of -4", row.push(i), -4 * 16384);
            CHECKS.due("body(i, 0, 64)", row.body(i, 0, 64), 0);
            CHECKS.due("a push of 8", row.push(i), 8 * 16384);
            CHECKS.due("body(i, 64, 64)", row.body(i, 64, 64), 0);
            CHECKS.due("a push of 4", row.push(i), 4 * 16384);
            CHECKS.due("body(i, 0, 0)", row.body(i, 0, 0), 0);
            CHECKS.due("no push", row.push(i), 0);
        }
    }

    private static void refusesWhatIsOutOfRange() {
        CHECKS.sentence("a STIFFNESS k and a DRAG c (0 .. 64, sixteenths)");
        OscillatorRow row = new OscillatorRow(2);
        row.set(0, 1000, 10);
        row.set(1, 2000, 20);
        row.body(0, 3, 5);
        row.body(1, 4, 6);
        String state = Checks.stateOf(row);
        int[][] wrong = {{-1, 1, 1}, {2, 1, 1}, {0, -1, 1}, {0, 65, 1}, {0, 1, -1}, {0, 1, 65},
            {Integer.MIN_VALUE, 1, 1}, {Integer.MAX_VALUE, 1, 1}, {1, Integer.MIN_VALUE, 1}, {1, 1, Integer.MAX_VALUE}};
        for (int[] call : wrong) {
            CHECKS.due("body(" + call[0] + ", " + call[1] + ", " + call[2] + ")",
                    row.body(call[0], call[1], call[2]), -1);
        }
        CHECKS.due("nothing changed", state.equals(Checks.stateOf(row)));
    }
}
