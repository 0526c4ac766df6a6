/** Promises 4, 9 and 10: set, place and speed. */
public final class SetTest {
    private static final Checks CHECKS = new Checks("promises 4, 9, 10");
    private static final int FAR = 1000000000;

    public static void main(String[] args) {
        setsPlaceAndSpeed();
        theLeastAndTheMost();
        refusesWhatIsOutOfRange();
        thereIsNoSuchBody();
        aPlaceMayBeThatToo();
        CHECKS.end();
    }

    private static void setsPlaceAndSpeed() {
        CHECKS.sentence("Sets the body's PLACE and SPEED");
        OscillatorRow row = new OscillatorRow(3);
        CHECKS.due("set(1, 11, 12)", row.set(1, 11, 12), 0);
        for (int i = 0; i < 3; i++) {
            CHECKS.due("place(" + i + ")", row.place(i), i == 1 ? 11 : 0);
            CHECKS.due("speed(" + i + ")", row.speed(i), i == 1 ? 12 : 0);
        }
        CHECKS.due("the time stands", row.count(0), 0);
        row.advance(100);
        row.set(1, 5, 6);
        CHECKS.due("the time stands", row.count(0), 100);
        CHECKS.due("place(1)", row.place(1), 5);
        CHECKS.due("speed(1)", row.speed(1), 6);
    }

    private static void theLeastAndTheMost() {
        CHECKS.sentence("-1000000000 .. 1000000000 UNITS each");
        int[][] right = {{FAR, FAR}, {FAR, -FAR}, {-FAR, FAR}, {-FAR, -FAR}};
        for (int i = 0; i < 4; i++) {
            OscillatorRow row = new OscillatorRow(4);
            for (int[] r : right) {
                CHECKS.due("set(" + i + ", " + r[0] + ", " + r[1] + ")", row.set(i, r[0], r[1]), 0);
                CHECKS.due("place(" + i + ")", row.place(i), r[0]);
                CHECKS.due("speed(" + i + ")", row.speed(i), r[1]);
            }
        }
    }

    private static void refusesWhatIsOutOfRange() {
        CHECKS.sentence("-1000000000 .. 1000000000 UNITS each");
        OscillatorRow row = new OscillatorRow(2);
        row.set(0, 11, 12);
        row.set(1, 13, 14);
        String state = Checks.stateOf(row);
        int[][] wrong = {{-1, 1, 1}, {2, 1, 1}, {0, FAR + 1, 1}, {0, -FAR - 1, 1}, {1, 1, FAR + 1},
            {1, 1, -FAR - 1}, {0, Integer.MIN_VALUE, 1}, {0, 1, Integer.MIN_VALUE}, {0, Integer.MAX_VALUE, 1},
            {0, 1, Integer.MAX_VALUE}, {-1, FAR + 1, FAR + 1}};
        for (int[] call : wrong) {
            CHECKS.due("set(" + call[0] + ", " + call[1] + ", " + call[2] + ")",
                    row.set(call[0], call[1], call[2]), -1);
        }
        CHECKS.due("nothing changed", state.equals(Checks.stateOf(row)));
    }

    private static void thereIsNoSuchBody() {
        CHECKS.sentence("REFUSED if there is no such");
        for (int n = 1; n <= 4; n++) {
            OscillatorRow row = new OscillatorRow(n);
            for (int i = 0; i < n; i++) {
                row.set(i, 5, 6);
                CHECKS.due("place(" + i + ")", row.place(i), 5);
                CHECKS.due("speed(" + i + ")", row.speed(i), 6);
            }
            for (int i : new int[] {Integer.MIN_VALUE, -1, n, n + 1, Integer.MAX_VALUE}) {
                CHECKS.due("place(" + i + ")", row.place(i), -1);
                CHECKS.due("speed(" + i + ")", row.speed(i), -1);
            }
        }
    }

    private static void aPlaceMayBeThatToo() {
        CHECKS.sentence("(a PLACE may be that too)");
        OscillatorRow row = new OscillatorRow(2);
        CHECKS.due("set(1, -1, -2)", row.set(1, -1, -2), 0);
        CHECKS.due("place(1)", row.place(1), -1);
        CHECKS.due("speed(1)", row.speed(1), -2);
        CHECKS.due("set(1, -2, -1)", row.set(1, -2, -1), 0);
        CHECKS.due("place(1)", row.place(1), -2);
        CHECKS.due("speed(1)", row.speed(1), -1);
    }
}
