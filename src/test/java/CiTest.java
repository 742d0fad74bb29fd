import java.io.IOException;
import java.nio.file.Files;
import java.nio.file.Path;
import java.nio.file.attribute.PosixFilePermission;
import java.util.ArrayList;
import java.util.List;
import java.util.Set;
import java.util.concurrent.Callable;
import java.util.concurrent.ExecutorService;
import java.util.concurrent.Executors;
import java.util.concurrent.Future;
import java.util.regex.Matcher;
import java.util.regex.Pattern;
import java.util.stream.Stream;

/**
 * The command that README.md names for the tests runs them all, and fails if one fails: it is run in small projects
 * with a class and tests of their own, one of which is wrong.
 */
public final class CiTest {
    private static final Pattern COMMAND = Pattern.compile("(?m)^```sh\\n(.*)\\n```$");
    private static final String MAIN = "project/src/main/java/TinFen.java";
    private static final String HELPER = "project/src/test/java/Helper.java";
    private static final String[] TESTS = {"shared/tests/OneRuns.java", "shared/tests/TwoRuns.java",
        "project/src/test/java/OneTest.java", "project/src/test/java/TwoTest.java"};
    private static final String FAILS = "System.exit(1);";
    private static final String THROWS = "throw new IllegalStateException();";
    private static final String NO_JAVA = "no java";

    /** A small project in which a test is something else, with the exit code of the command there. */
    private record Trial(String name, String file, String body, boolean passes) {
    }

    public static void main(String[] args) throws Exception {
        scriptStands();
        everyTestIsFound();
        tryAll();
        Check.end();
    }

    private static List<String> command() throws IOException {
        Matcher m = COMMAND.matcher(Files.readString(Path.of("README.md")));
        Check.due("README.md names a command for the tests", m.find(), true);
        return List.of(m.group(1).split(" "));
    }

    private static void scriptStands() throws IOException {
        Set<PosixFilePermission> may = Files.getPosixFilePermissions(Path.of(".ci/run"));
        Check.due(".ci/run is executable", may.contains(PosixFilePermission.OWNER_EXECUTE), true);
        Check.same("the command that README.md names", String.join(" ", command()), "bash .ci/run");
    }

    /** A test whose name does not end so would not be run. */
    private static void everyTestIsFound() throws IOException {
        List<Path> files;
        try (Stream<Path> all = Files.walk(Path.of("src"))) {
            files = all.filter(f -> f.toString().endsWith(".java")).toList();
        }
        for (Path file : files) {
            boolean test = Files.readString(file).contains("public static void main(");
            boolean found = file.getParent().equals(Path.of("src/test/java")) && file.toString().endsWith("Test.java");
            Check.due(file + " is a test just if it is named so", found, test);
        }
    }

    private static void tryAll() throws Exception {
        List<Trial> trials = new ArrayList<>();
        trials.add(new Trial("all pass", null, null, true));
        for (String file : TESTS) {
            trials.add(new Trial("exit code 1 in " + file, file, FAILS, false));
        }
        trials.add(new Trial("a throw in " + TESTS[1], TESTS[1], THROWS, false));
        trials.add(new Trial("a throw in " + TESTS[3], TESTS[3], THROWS, false));
        trials.add(new Trial("no Java in " + TESTS[0], TESTS[0], NO_JAVA, false));
        trials.add(new Trial("no Java in " + TESTS[2], TESTS[2], NO_JAVA, false));
        trials.add(new Trial("no Java in " + MAIN, MAIN, NO_JAVA, false));
        trials.add(new Trial("no tests in shared/tests", "shared/tests", null, false));
        trials.add(new Trial("no tests in src/test/java", "project/src/test/java", null, false));
        List<String> command = command();
        ExecutorService pool = Executors.newFixedThreadPool(4);
        List<Future<Sandbox.Outcome>> outcomes = new ArrayList<>();
        for (Trial trial : trials) {
            Callable<Sandbox.Outcome> task = () -> run(trial, command);
            outcomes.add(pool.submit(task));
        }
        for (int i = 0; i < trials.size(); i++) {
            look(trials.get(i), outcomes.get(i).get());
        }
        pool.shutdown();
    }

    private static Sandbox.Outcome run(Trial trial, List<String> command) throws IOException, InterruptedException {
        try (Sandbox box = new Sandbox()) {
            box.write("project/.ci/run", Files.readString(Path.of(".ci/run")));
            write(box, MAIN, "final class TinFen { static final int NONE = -1; }", trial);
            write(box, HELPER, "final class Helper { static int none() { return TinFen.NONE; } }", trial);
            for (String file : TESTS) {
                String none = file.startsWith("shared") ? "TinFen.NONE" : "Helper.none()";
                boolean changed = file.equals(trial.file());
                String body = changed && trial.body() != null ? trial.body() : "";
                write(box, file, "public final class " + nameOf(file) + " { public static void main(String[] args) {"
                    + " System.out.println(\"" + nameOf(file) + " began\" + " + none + "); if (args.length == 0) { " + body + " } } }", trial);
            }
            return Sandbox.run(box.root.resolve("project"), command);
        }
    }

    /** Nothing of a directory that the trial does without. */
    private static void write(Sandbox box, String file, String text, Trial trial) throws IOException {
        boolean without = trial.file() != null && trial.body() == null && file.startsWith(trial.file());
        boolean broken = file.equals(trial.file()) && NO_JAVA.equals(trial.body());
        if (!without) {
            box.write(file, broken ? NO_JAVA : text);
        }
    }

    private static String nameOf(String file) {
        return Path.of(file).getFileName().toString().replace(".java", "");
    }

    private static void look(Trial trial, Sandbox.Outcome outcome) {
        int before = Check.wrongSoFar();
        Check.due(trial.name() + ": exit code 0", outcome.exit() == 0, trial.passes());
        for (String file : TESTS) {
            // one that can't be compiled takes those along that are compiled with it
            boolean runs = !NO_JAVA.equals(trial.body()) && (trial.body() != null || trial.file() == null);
            boolean began = outcome.printed().contains(nameOf(file) + " began-1");
            Check.due(trial.name() + ": " + nameOf(file) + " is run", began || !runs, true);
        }
        if (Check.wrongSoFar() != before) {
            System.out.println(outcome.printed());
        }
    }
}
