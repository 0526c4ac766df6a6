/** Promises 5 and 11: force and push. */
public final class ForceTest {
    private static final Checks CHECKS = new Checks("promises 5, 11");

    public static void main(String[] args) {
        setsTheForce();
        refusesWhatIsOutOfRange();
        pushIsExactForGreatNumbers();
        thereIsNoSuchBody();
        CHECKS.end();
    }

    private static void setsTheForce() {
        OscillatorRow row = new OscillatorRow(2);
        CHECKS.due("force(0, 1000000000)", row.force(0, 1000000000), 0);
        CHECKS.due("push(0)", row.push(0), 16000000000L);
        CHECKS.due("force(0, -1000000000)", row.force(0, -1000000000), 0);
        CHECKS.due("push(0)", row.push(0), -16000000000L);
        CHECKS.due("push(1)", row.push(1), 0);
        CHECKS.due("force(1, 1024)", row.force(1, 1024), 0);
        CHECKS.due("push(1)", row.push(1), 16384);
        row.set(1, 0, 0);
        row.force(0, 0);
        // A force of 1 alone, for a time of 1: the speed grows by 1, the place by 1/2.
        CHECKS.due("advance(256)", row.advance(256), 256);
        CHECKS.due("speed(1)", row.speed(1), 1024);
        CHECKS.due("place(1)", row.place(1), 512);
        CHECKS.due("place(0)", row.place(0), 0);
    }

    private static void refusesWhatIsOutOfRange() {
        OscillatorRow row = new OscillatorRow(2);
        row.force(0, 7);
        row.force(1, 8);
        String state = Checks.stateOf(row);
        int[][] wrong = {{-1, 1}, {2, 1}, {0, 1000000001}, {0, -1000000001}, {1, Integer.MIN_VALUE},
            {1, Integer.MAX_VALUE}, {Integer.MIN_VALUE, 1}, {Integer.MAX_VALUE, 1}};
        for (int[] call : wrong) {
            CHECKS.due("force(" + call[0] + ", " + call[1] + ")", row.force(call[0], call[1]), -1);
        }
        CHECKS.due("nothing changed", state.equals(Checks.stateOf(row)));
    }

    private static void pushIsExactForGreatNumbers() {
        OscillatorRow row = new OscillatorRow(3);
        int most = 1000000000;
        row.set(0, most, 0);
        row.set(1, -most, -most);
        row.set(2, most, 0);
        row.body(1, 64, 64);
        row.link(0, 64);
        row.link(1, 64);
        row.force(1, most);
        CHECKS.due("push(1)", row.push(1), (16L + 64 + 64 + 128 + 128) * most);
        CHECKS.due("push(0)", row.push(0), -128L * most);
        CHECKS.due("push(2)", row.push(2), -128L * most);
    }

    private static void thereIsNoSuchBody() {
        OscillatorRow row = new OscillatorRow(2);
        for (int i : new int[] {Integer.MIN_VALUE, -1, 2, 4, Integer.MAX_VALUE}) {
            CHECKS.due("push(" + i + ")", row.push(i), -2000000000L);
        }
    }
}
