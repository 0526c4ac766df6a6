import java.util.List;

/**
 * A call of the face with its arguments in a row, so that each can be moved to its edges alone: right
 * arguments, the least and the most of each, and the answer if one is out of range.
 */
record CallShape(String name, Call call, int[] right, int[] least, int[] most, long refusal) {
    interface Call {
        long on(OscillatorRow row, int[] a);
    }

    private static final int FAR = 1000000000;

    /** Every call that has arguments, for a row of n bodies that keeps so many hits. */
    static List<CallShape> all(int n, int hits) {
        return List.of(
                new CallShape("body", (row, a) -> row.body(a[0], a[1], a[2]),
                        args(n - 1, 33, 7), args(0, 0, 0), args(n - 1, 64, 64), -1),
                new CallShape("link", (row, a) -> row.link(a[0], a[1]),
                        args(Math.max(0, n - 2), 50), args(0, 0), args(n - 2, 64), -1),
                new CallShape("set", (row, a) -> row.set(a[0], a[1], a[2]),
                        args(n - 1, 77777, -333), args(0, -FAR, -FAR), args(n - 1, FAR, FAR), -1),
                new CallShape("force", (row, a) -> row.force(a[0], a[1]),
                        args(n - 1, 5555), args(0, -FAR), args(n - 1, FAR), -1),
                new CallShape("tolerance", (row, a) -> row.tolerance(a[0]), args(999), args(0), args(1000000), -1),
                watchShape(n, true, 1),
                watchShape(n, false, 2),
                watchShape(n, true, -1),
                new CallShape("advance", (row, a) -> row.advance(a[0]), args(300), args(1), args(2048), -1),
                new CallShape("place", (row, a) -> row.place(a[0]), args(n - 1), args(0), args(n - 1), -1),
                new CallShape("speed", (row, a) -> row.speed(a[0]), args(n - 1), args(0), args(n - 1), -1),
                new CallShape("push", (row, a) -> row.push(a[0]), args(n - 1), args(0), args(n - 1), -2000000000L),
                new CallShape("hit", (row, a) -> row.hit(a[0], a[1]),
                        args(0, 1), args(0, 0), args(hits - 1, 2), -2000000000L),
                new CallShape("count", (row, a) -> row.count(a[0]), args(6), args(0), args(7), -1));
    }

    private static CallShape watchShape(int n, boolean up, int action) {
        return new CallShape(up ? "watch up" : "watch down", (row, a) -> row.watch(a[0], a[1], a[2], up, a[3]),
                args(1, 0, 321, action), args(0, 0, -FAR, -1), args(3, n - 1, FAR, 2), -1);
    }

    private static int[] args(int... values) {
        return values;
    }

    /** The right arguments with the one at the place given replaced. */
    int[] with(int place, int value) {
        int[] changed = right.clone();
        changed[place] = value;
        return changed;
    }

    /** Just outside, and as far outside as an int goes. */
    int[] outside(int place) {
        return new int[] {least[place] - 1, most[place] + 1, Integer.MIN_VALUE, Integer.MAX_VALUE};
    }

    /** The edges themselves; none if the range is empty. */
    int[] inside(int place) {
        return least[place] > most[place] ? new int[0] : new int[] {least[place], most[place]};
    }

    String told(int[] a) {
        StringBuilder text = new StringBuilder(name).append('(');
        for (int n = 0; n < a.length; n++) {
            text.append(n > 0 ? ", " : "").append(a[n]);
        }
        return text.append(')').toString();
    }
}
