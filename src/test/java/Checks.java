/** Compares answers with the ones that are due, prints those that differ, and ends a test. */
final class Checks {
    private final String subject;
    private String sentence = "";
    private int wrong;

    Checks(String subject) {
        this.subject = subject;
    }

    /** The document's own words that the checks after this hold the class to. */
    void sentence(String words) {
        sentence = " '" + words + "'";
    }

    void due(String call, long got, long want) {
        if (got != want) {
            wrong++;
            System.out.println(subject + ":" + sentence + " " + call + " answered " + got + ", due is " + want);
        }
    }

    void due(String claim, boolean holds) {
        due(claim, holds ? 1 : 0, 1);
    }

    /** Every answer that the object gives about itself (some thirty calls, and three for each hit kept). */
    static String stateOf(OscillatorRow row) {
        StringBuilder text = new StringBuilder();
        for (int i = 0; i < row.count(6); i++) {
            text.append(row.place(i)).append(' ').append(row.speed(i)).append(' ').append(row.push(i)).append(' ');
        }
        for (int what = 0; what < 8; what++) {
            text.append(row.count(what)).append(' ');
        }
        int kept = Math.min(40, row.count(4));
        for (int n = 0; n <= kept; n++) {
            text.append(row.hit(n, 0)).append(' ').append(row.hit(n, 1)).append(' ').append(row.hit(n, 2)).append(' ');
        }
        return text.toString();
    }

    void end() {
        if (wrong != 0) {
            System.exit(1);
        }
    }
}
