/** Promise 5: force. */
public final class ForceTest {
    private static final Checks CHECKS = new Checks("promise 5");
    private static final int FAR = 1000000000;

    public static void main(String[] args) {
        setsTheForce();
        theLeastAndTheMost();
        refusesWhatIsOutOfRange();
        CHECKS.end();
    }

    private static void setsTheForce() {
        CHECKS.sentence("Sets the body's FORCE");
        OscillatorRow row = new OscillatorRow(2);
        CHECKS.due("force(1, 1024)", row.force(1, 1024), 0);
        CHECKS.due("push(0)", row.push(0), 0);
        CHECKS.due("push(1)", row.push(1), 16384);
        // A force of 1 alone, for a time of 1: the speed grows by 1, the place by 1/2.
        CHECKS.due("advance(256)", row.advance(256), 256);
        CHECKS.due("speed(1)", row.speed(1), 1024);
        CHECKS.due("place(1)", row.place(1), 512);
        CHECKS.due("place(0)", row.place(0), 0);
        CHECKS.due("speed(0)", row.speed(0), 0);
    }

    private static void theLeastAndTheMost() {
        CHECKS.sentence("-1000000000 .. 1000000000 UNITS");
        for (int i = 0; i < 4; i++) {
            OscillatorRow row = new OscillatorRow(4);
            CHECKS.due("force(" + i + ", 1000000000)", row.force(i, FAR), 0);
            CHECKS.due("push(" + i + ")", row.push(i), 16000000000L);
            CHECKS.due("force(" + i + ", -1000000000)", row.force(i, -FAR), 0);
            CHECKS.due("push(" + i + ")", row.push(i), -16000000000L);
            CHECKS.due("force(" + i + ", 0)", row.force(i, 0), 0);
            CHECKS.due("push(" + i + ")", row.push(i), 0);
        }
    }

    private static void refusesWhatIsOutOfRange() {
        CHECKS.sentence("-1000000000 .. 1000000000 UNITS");
        OscillatorRow row = new OscillatorRow(2);
        row.force(0, 7);
        row.force(1, 8);
        String state = Checks.stateOf(row);
        int[][] wrong = {{-1, 1}, {2, 1}, {0, FAR + 1}, {0, -FAR - 1}, {1, Integer.MIN_VALUE},
            {1, Integer.MAX_VALUE}, {Integer.MIN_VALUE, 1}, {Integer.MAX_VALUE, 1}};
        for (int[] call : wrong) {
            CHECKS.due("force(" + call[0] + ", " + call[1] + ")", row.force(call[0], call[1]), -1);
        }
        CHECKS.due("nothing changed", state.equals(Checks.stateOf(row)));
    }
}
