import java.util.Random;

/** All promises at once: the same chance calls to the class and to the slow reference. */
public final class ReferenceTest {
    private static final int RUNS = 200;
    /** What an object answers after its 512th call is free. */
    private static final int MOST_CALLS = 512;
    private static final int CALLS_OF_A_COMPARISON = 151;
    private static final int MOST_CALLS_OF_A_TURN = 4;

    private final Checks checks = new Checks("reference");
    private final Random random = new Random(20261115);
    private OscillatorRow row;
    private ReferenceRow reference;
    private int scale;
    private int run;
    private int calls;

    public static void main(String[] args) {
        ReferenceTest test = new ReferenceTest();
        for (int run = 0; run < RUNS; run++) {
            test.compareRun(run);
        }
        test.checks.end();
    }

    private void compareRun(int number) {
        run = number;
        int bodies = between(-1, 6);
        row = new OscillatorRow(bodies);
        reference = new ReferenceRow(bodies);
        scale = new int[] {40, 3000, 100000, 1000000000}[random.nextInt(4)];
        calls = 0;
        for (int turn = 0; calls + MOST_CALLS_OF_A_TURN + CALLS_OF_A_COMPARISON <= MOST_CALLS; turn++) {
            oneCall(turn);
        }
        compareState();
    }

    private void oneCall(int turn) {
        switch (turn < 12 ? random.nextInt(6) : random.nextInt(13)) {
            case 0 -> bodyCall();
            case 1 -> linkCall();
            case 2 -> setCall();
            case 3 -> forceCall();
            case 4 -> toleranceCall();
            case 5 -> watchCall();
            case 6, 7, 8, 9 -> advanceCall();
            case 10 -> askCall();
            case 11 -> hitCall();
            default -> clearCall();
        }
    }

    private int between(int least, int most) {
        return least + random.nextInt(most - least + 1);
    }

    /** Mostly in range, at times at an edge or beyond it. */
    private int near(int least, int most) {
        return switch (random.nextInt(24)) {
            case 0 -> least;
            case 1 -> most;
            case 2 -> least - 1;
            case 3 -> most + 1;
            default -> between(least, most);
        };
    }

    private int amount() {
        return switch (random.nextInt(30)) {
            case 0 -> 1000000000;
            case 1 -> -1000000000;
            case 2 -> 1000000001;
            case 3 -> -1000000001;
            case 4, 5, 6 -> 0;
            default -> between(-scale, scale);
        };
    }

    private void due(String call, long got, long want) {
        calls++;
        checks.due("run " + run + ": " + call, got, want);
    }

    private void bodyCall() {
        int i = near(0, 3);
        int stiffness = near(0, random.nextBoolean() ? 64 : 4);
        int drag = near(0, random.nextBoolean() ? 64 : 4);
        due("body(" + i + ", " + stiffness + ", " + drag + ")",
                row.body(i, stiffness, drag), reference.body(i, stiffness, drag));
    }

    private void linkCall() {
        int i = near(0, 2);
        int q = near(0, 64);
        due("link(" + i + ", " + q + ")", row.link(i, q), reference.link(i, q));
    }

    private void setCall() {
        int i = near(0, 3);
        int place = amount();
        int speed = amount();
        due("set(" + i + ", " + place + ", " + speed + ")", row.set(i, place, speed), reference.set(i, place, speed));
    }

    private void forceCall() {
        int i = near(0, 3);
        int units = amount();
        due("force(" + i + ", " + units + ")", row.force(i, units), reference.force(i, units));
    }

    private void toleranceCall() {
        int units = switch (random.nextInt(4)) {
            case 0 -> near(0, 1000000);
            case 1 -> near(0, 2000);
            case 2 -> near(0, 40);
            default -> near(0, 8);
        };
        due("tolerance(" + units + ")", row.tolerance(units), reference.tolerance(units));
    }

    private void watchCall() {
        int w = near(0, 3);
        int i = near(0, 2);
        int level = random.nextInt(3) == 0 ? amount() : amount() / 8;
        boolean up = random.nextBoolean();
        int action = near(-1, 2);
        due("watch(" + w + ", " + i + ", " + level + ", " + up + ", " + action + ")",
                row.watch(w, i, level, up, action), reference.watch(w, i, level, up, action));
    }

    private void advanceCall() {
        int ticks = switch (random.nextInt(4)) {
            case 0 -> near(1, 8);
            case 1 -> 256;
            case 2 -> 1 << between(0, 9);
            default -> near(1, 300);
        };
        due("advance(" + ticks + ")", row.advance(ticks), reference.advance(ticks));
    }

    private void hitCall() {
        int n = near(0, 40);
        int what = near(0, 2);
        due("hit(" + n + ", " + what + ")", row.hit(n, what), reference.hit(n, what));
    }

    private void clearCall() {
        if (random.nextInt(8) == 0) {
            due("clear()", row.clear(), reference.clear());
        }
    }

    private void askCall() {
        int i = near(0, 3);
        int what = near(0, 7);
        due("place(" + i + ")", row.place(i), reference.place(i));
        due("speed(" + i + ")", row.speed(i), reference.speed(i));
        due("push(" + i + ")", row.push(i), reference.push(i));
        due("count(" + what + ")", row.count(what), reference.count(what));
    }

    private void compareState() {
        for (int i = -1; i <= 4; i++) {
            due("place(" + i + ")", row.place(i), reference.place(i));
            due("speed(" + i + ")", row.speed(i), reference.speed(i));
            due("push(" + i + ")", row.push(i), reference.push(i));
        }
        for (int what = -1; what <= 8; what++) {
            due("count(" + what + ")", row.count(what), reference.count(what));
        }
        for (int n = 0; n <= 40; n++) {
            for (int what = 0; what <= 2; what++) {
                due("hit(" + n + ", " + what + ")", row.hit(n, what), reference.hit(n, what));
            }
        }
    }
}
