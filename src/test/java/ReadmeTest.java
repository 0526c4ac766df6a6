import java.io.IOException;
import java.lang.reflect.Method;
import java.lang.reflect.Modifier;
import java.nio.file.Files;
import java.nio.file.Path;
import java.util.ArrayList;
import java.util.List;
import java.util.Set;
import java.util.TreeSet;
import java.util.regex.Matcher;
import java.util.regex.Pattern;
import java.util.stream.Collectors;
import java.util.stream.Stream;

/** What README.md shows is so: its program, its calls, its commands and its table of tests. */
public final class ReadmeTest {
    private static final Checks CHECKS = new Checks("README.md");
    private static final Pattern BLOCK = Pattern.compile("(?ms)^```\\w+\\n(.*?)^```$");
    private static final Pattern TABLE_ROW = Pattern.compile("(?m)^\\| `(\\w+)` \\|");
    private static final Pattern CALL = Pattern.compile("(row\\.(\\w+)\\(.*\\)); +// (-?\\w+): .+");
    private static final String MAIN = "src/main/java/OscillatorRow.java";

    private final String readme;

    private ReadmeTest() throws IOException {
        readme = Files.readString(Path.of("README.md"));
    }

    public static void main(String[] args) throws Exception {
        ReadmeTest test = new ReadmeTest();
        test.theProgramPrintsWhatItSays();
        test.theCallsAnswerWhatItSays();
        test.everyCallIsShown();
        test.theSingleTestRuns();
        test.theCommandForAllTestsIsThere();
        test.theTableHasEveryTest();
        CHECKS.end();
    }

    /** The text between the fences of the block that begins so. */
    private String blockFrom(String beginning) {
        Matcher block = BLOCK.matcher(readme);
        while (block.find()) {
            if (block.group(1).startsWith(beginning)) {
                return block.group(1);
            }
        }
        CHECKS.due("a block begins with " + beginning, false);
        return "";
    }

    private void theProgramPrintsWhatItSays() throws Exception {
        try (Workshop workshop = new Workshop()) {
            workshop.copy("src", "src");
            workshop.write("Swing.java", blockFrom("public class Swing"));
            Workshop.Outcome outcome = workshop.run("", blockFrom("javac -d build " + MAIN + " Swing.java"));
            CHECKS.due("the program's exit code", outcome.code(), 0);
            CHECKS.due("the program prints what it says, not " + outcome.text(),
                    outcome.text().equals(blockFrom("at ")));
        }
    }

    private void theCallsAnswerWhatItSays() throws Exception {
        List<Matcher> calls = shownCalls();
        StringBuilder program = new StringBuilder("public class Calls {\npublic static void main(String[] args) {\n");
        program.append(firstLine(callsBlock())).append('\n');
        for (Matcher call : calls) {
            program.append("System.out.println(").append(call.group(1)).append(");\n");
        }
        program.append("}\n}\n");
        try (Workshop workshop = new Workshop()) {
            workshop.copy("src", "src");
            workshop.write("Calls.java", program.toString());
            Workshop.Outcome outcome = workshop.run("", "javac -d build " + MAIN + " Calls.java\njava -cp build Calls");
            CHECKS.due("the calls' exit code", outcome.code(), 0);
            compareAnswers(calls, outcome.text().lines().toList());
        }
    }

    private static void compareAnswers(List<Matcher> calls, List<String> answers) throws Exception {
        CHECKS.due("answers", answers.size(), calls.size());
        for (int n = 0; n < answers.size(); n++) {
            CHECKS.due(calls.get(n).group(1), Long.parseLong(answers.get(n)), valueOf(calls.get(n).group(3)));
        }
    }

    private static long valueOf(String told) throws Exception {
        return Character.isLetter(told.charAt(0))
                ? OscillatorRow.class.getField(told).getInt(null)
                : Long.parseLong(told);
    }

    private String callsBlock() {
        return blockFrom("OscillatorRow row = new OscillatorRow(");
    }

    private static String firstLine(String text) {
        return text.substring(0, text.indexOf('\n'));
    }

    private List<Matcher> shownCalls() {
        List<Matcher> calls = new ArrayList<>();
        callsBlock().lines().skip(1).forEach(line -> {
            Matcher call = CALL.matcher(line);
            if (call.matches()) {
                calls.add(call);
            } else {
                CHECKS.due("a call with its answer: " + line, false);
            }
        });
        return calls;
    }

    private void everyCallIsShown() {
        Set<String> shown = shownCalls().stream().map(call -> call.group(2)).collect(Collectors.toSet());
        for (Method method : OscillatorRow.class.getDeclaredMethods()) {
            if (Modifier.isPublic(method.getModifiers())) {
                CHECKS.due(method.getName() + " is shown", shown.contains(method.getName()));
            }
        }
    }

    private void theSingleTestRuns() throws Exception {
        try (Workshop workshop = new Workshop()) {
            workshop.copy("src", "src");
            String commands = blockFrom("javac -d build " + MAIN + " src/test/java/*.java");
            CHECKS.due("the single test's exit code", workshop.run("", commands).code(), 0);
        }
    }

    // It can't be run from here, as it runs this test; CiRunTest tries it on another project.
    private void theCommandForAllTestsIsThere() {
        String command = blockFrom(".ci/run").strip();
        CHECKS.due(command + " can be run", Files.isExecutable(Path.of(command)));
    }

    private void theTableHasEveryTest() throws IOException {
        Set<String> told = new TreeSet<>();
        Matcher row = TABLE_ROW.matcher(readme);
        while (row.find()) {
            told.add(row.group(1));
        }
        try (Stream<Path> files = Files.list(Path.of("src/test/java"))) {
            Set<String> there = files.map(file -> file.getFileName().toString())
                    .filter(name -> name.endsWith("Test.java"))
                    .map(name -> name.substring(0, name.length() - ".java".length()))
                    .collect(Collectors.toCollection(TreeSet::new));
            CHECKS.due("the table's tests " + told + " are those that there are " + there, told.equals(there));
        }
    }
}
