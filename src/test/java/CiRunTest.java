import java.io.IOException;
import java.util.List;

/** .ci/run runs every test and fails if one fails: tried on a small project with two tests of each kind. */
public final class CiRunTest {
    private static final Checks CHECKS = new Checks(".ci/run");
    private static final String OWN = "project/src/test/java/";
    private static final String SHARED = "shared/tests/";
    private static final List<String> TESTS = List.of(
            OWN + "EarlyTest", OWN + "LateTest", SHARED + "EarlyRuns", SHARED + "LateRuns");

    public static void main(String[] args) throws Exception {
        passesWhenAllPass();
        failsIfOneFails();
        failsIfOneDoesNotCompile();
        failsWithoutSharedTests();
        CHECKS.end();
    }

    private static Workshop projectWhereAllPass() throws IOException {
        Workshop workshop = new Workshop();
        workshop.copy(".ci", "project/.ci");
        workshop.write("project/src/main/java/OscillatorRow.java", "public final class OscillatorRow {\n}\n");
        for (String test : TESTS) {
            workshop.write(test + ".java", testThatEndsWith(0, nameOf(test)));
        }
        return workshop;
    }

    private static String nameOf(String test) {
        return test.substring(test.lastIndexOf('/') + 1);
    }

    private static String testThatEndsWith(int code, String name) {
        return "public final class " + name + " {\n    public static void main(String[] args) {\n"
                + "        System.out.println(\"" + name + " was run\");\n        System.exit(" + code + ");\n    }\n}\n";
    }

    private static Workshop.Outcome runIn(Workshop workshop) throws Exception {
        return workshop.run("project", "sh .ci/run 2>&1");
    }

    private static void allWereRun(Workshop.Outcome outcome) {
        for (String test : TESTS) {
            CHECKS.due(test + " was run", outcome.text().contains(nameOf(test) + " was run"));
        }
    }

    private static void passesWhenAllPass() throws Exception {
        try (Workshop workshop = projectWhereAllPass()) {
            Workshop.Outcome outcome = runIn(workshop);
            CHECKS.due("exit code when all pass", outcome.code(), 0);
            allWereRun(outcome);
        }
    }

    private static void failsIfOneFails() throws Exception {
        for (String failing : TESTS) {
            try (Workshop workshop = projectWhereAllPass()) {
                workshop.write(failing + ".java", testThatEndsWith(1, nameOf(failing)));
                Workshop.Outcome outcome = runIn(workshop);
                CHECKS.due("fails when " + failing + " does", outcome.code() != 0);
                allWereRun(outcome);
            }
        }
    }

    private static void failsIfOneDoesNotCompile() throws Exception {
        for (String broken : TESTS) {
            try (Workshop workshop = projectWhereAllPass()) {
                workshop.write(broken + ".java", "no Java\n");
                CHECKS.due("fails when " + broken + " does not compile", runIn(workshop).code() != 0);
            }
        }
    }

    private static void failsWithoutSharedTests() throws Exception {
        try (Workshop workshop = new Workshop()) {
            workshop.copy(".ci", "project/.ci");
            workshop.write("project/src/main/java/OscillatorRow.java", "public final class OscillatorRow {\n}\n");
            workshop.write(OWN + "EarlyTest.java", testThatEndsWith(0, "EarlyTest"));
            CHECKS.due("fails without tests under ../shared/tests", runIn(workshop).code() != 0);
        }
    }
}
