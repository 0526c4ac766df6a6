/** Promises 4, 9 and 10: set, place and speed. */
public final class SetTest {
    private static final Checks CHECKS = new Checks("promises 4, 9, 10");

    public static void main(String[] args) {
        setsPlaceAndSpeed();
        refusesWhatIsOutOfRange();
        thereIsNoSuchBody();
        CHECKS.end();
    }

    private static void setsPlaceAndSpeed() {
        OscillatorRow row = new OscillatorRow(3);
        CHECKS.due("set(0, 1000000000, -1000000000)", row.set(0, 1000000000, -1000000000), 0);
        CHECKS.due("set(2, -1000000000, 1000000000)", row.set(2, -1000000000, 1000000000), 0);
        CHECKS.due("place(0)", row.place(0), 1000000000);
        CHECKS.due("speed(0)", row.speed(0), -1000000000);
        CHECKS.due("place(1)", row.place(1), 0);
        CHECKS.due("speed(1)", row.speed(1), 0);
        CHECKS.due("place(2)", row.place(2), -1000000000);
        CHECKS.due("speed(2)", row.speed(2), 1000000000);
        CHECKS.due("set(1, -1, -2)", row.set(1, -1, -2), 0);
        CHECKS.due("place(1) may be -1", row.place(1), -1);
        CHECKS.due("speed(1)", row.speed(1), -2);
        CHECKS.due("the time stands", row.count(0), 0);
    }

    private static void refusesWhatIsOutOfRange() {
        OscillatorRow row = new OscillatorRow(2);
        row.set(0, 11, 12);
        row.set(1, 13, 14);
        String state = Checks.stateOf(row);
        int[][] wrong = {{-1, 1, 1}, {2, 1, 1}, {0, 1000000001, 1}, {0, -1000000001, 1}, {1, 1, 1000000001},
            {1, 1, -1000000001}, {0, Integer.MIN_VALUE, 1}, {0, 1, Integer.MIN_VALUE}, {0, Integer.MAX_VALUE, 1},
            {0, 1, Integer.MAX_VALUE}};
        for (int[] call : wrong) {
            CHECKS.due("set(" + call[0] + ", " + call[1] + ", " + call[2] + ")", row.set(call[0], call[1], call[2]), -1);
        }
        CHECKS.due("nothing changed", state.equals(Checks.stateOf(row)));
    }

    private static void thereIsNoSuchBody() {
        OscillatorRow row = new OscillatorRow(2);
        row.set(0, 5, 5);
        row.set(1, 5, 5);
        for (int i : new int[] {Integer.MIN_VALUE, -1, 2, 3, 4, Integer.MAX_VALUE}) {
            CHECKS.due("place(" + i + ")", row.place(i), -1);
            CHECKS.due("speed(" + i + ")", row.speed(i), -1);
        }
    }
}
