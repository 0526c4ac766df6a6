/** Compares answers with the ones that are due, prints those that differ, and ends a test. */
final class Checks {
    private final String subject;
    private int wrong;

    Checks(String subject) {
        this.subject = subject;
    }

    void due(String call, long got, long want) {
        if (got != want) {
            wrong++;
            System.out.println(subject + ": " + call + " answered " + got + ", due is " + want);
        }
    }

    void due(String claim, boolean holds) {
        due(claim, holds ? 1 : 0, 1);
    }

    /** Every answer of the object that a refused call could have changed, for comparing before and after. */
    static String stateOf(OscillatorRow row) {
        StringBuilder text = new StringBuilder();
        for (int i = 0; i < 4; i++) {
            text.append(row.place(i)).append(' ').append(row.speed(i)).append(' ').append(row.push(i)).append(' ');
        }
        for (int what = 0; what < 8; what++) {
            text.append(row.count(what)).append(' ');
        }
        for (int n = 0; n < 40; n++) {
            text.append(row.hit(n, 0)).append(' ').append(row.hit(n, 1)).append(' ').append(row.hit(n, 2)).append(' ');
        }
        return text.toString();
    }

    void end() {
        if (wrong != 0) {
            System.exit(1);
        }
    }
}
