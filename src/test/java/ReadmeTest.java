import java.io.IOException;
import java.lang.reflect.Method;
import java.lang.reflect.Modifier;
import java.nio.file.Files;
import java.nio.file.Path;
import java.util.ArrayList;
import java.util.List;
import java.util.Set;
import java.util.TreeSet;
import java.util.regex.Matcher;
import java.util.regex.Pattern;

/** What README.md shows of the class's use compiles together with the class and answers as README.md says. */
public final class ReadmeTest {
    private static final Pattern BLOCK = Pattern.compile("(?ms)^```java\\n(.*?)^```$");
    private static final Pattern CLASS = Pattern.compile("(?m)^(?:public )?(?:final )?class (\\w+)");
    /** A statement, and behind it its answer, perhaps with words behind a colon. */
    private static final Pattern TOLD = Pattern.compile("(?s)(.*);\\s*// ([^:\"\\n]+)(?::[^\"\\n]*)?");
    private static final int FEWEST_ANSWERS = 80;

    /** A call that README.md shows and the answer it tells; no answer for what makes an object. */
    private record Told(String code, String answer) {
    }

    private static final List<String> CLASSES = new ArrayList<>();
    private static final List<Told> STORY = new ArrayList<>();

    public static void main(String[] args) throws IOException, InterruptedException {
        readBlocks(Files.readString(Path.of("README.md")));
        showsEachCall();
        showsEachStatus();
        Sandbox.Outcome told = run(STORY);
        System.out.print(told.printed());
        Check.due("README.md: its calls answer as it says", told.exit(), 0);
        Sandbox.Outcome wrong = run(withOneWrong());
        Check.due("an answer that is wrong would be found", wrong.exit(), 1);
        Check.due("and told", wrong.printed().contains("README.md: call " + STORY.size()), true);
        Check.end();
    }

    private static void readBlocks(String page) {
        Matcher m = BLOCK.matcher(page);
        while (m.find()) {
            if (CLASS.matcher(m.group(1)).find()) {
                CLASSES.add(m.group(1));
            } else {
                readStatements(m.group(1));
            }
        }
        long blocks = page.lines().filter(line -> line.startsWith("```java")).count();
        Check.due("README.md: each block of Java is read", blocks, BLOCK.matcher(page).results().count());
    }

    private static void readStatements(String block) {
        StringBuilder code = new StringBuilder();
        for (String line : block.split("\n")) {
            code.append(code.length() == 0 ? "" : "\n").append(line);
            Matcher told = TOLD.matcher(code);
            if (told.matches()) {
                STORY.add(new Told(told.group(1).trim(), told.group(2).trim()));
                code.setLength(0);
            } else if (code.toString().startsWith("TinFen ") && line.endsWith(";")) {
                STORY.add(new Told(code.toString(), null));
                code.setLength(0);
            }
        }
        Check.same("README.md: what stands without an answer", code.toString().trim(), "");
    }

    private static void showsEachCall() {
        StringBuilder shown = new StringBuilder();
        CLASSES.forEach(shown::append);
        STORY.forEach(told -> shown.append(told.code()).append('\n'));
        for (Method m : TinFen.class.getDeclaredMethods()) {
            if (Modifier.isPublic(m.getModifiers())) {
                Check.due("README.md shows x." + m.getName(), shown.indexOf("x." + m.getName() + "(") >= 0, true);
            }
        }
        Check.due("README.md shows " + STORY.size() + " calls", STORY.size() >= FEWEST_ANSWERS, true);
    }

    private static void showsEachStatus() {
        Set<Integer> shown = new TreeSet<>();
        for (Told told : STORY) {
            if (told.code().equals("x.status()")) {
                shown.add(Integer.parseInt(told.answer()));
            }
        }
        Check.same("README.md shows each STATUS", shown.toString(), "[0, 1, 2, 3, 4, 5, 6, 7, 8, 9, 10, 11]");
    }

    private static List<Told> withOneWrong() {
        List<Told> story = new ArrayList<>(STORY);
        Told last = story.remove(story.size() - 1);
        story.add(new Told(last.code(), last.answer() + "0"));
        return story;
    }

    private static String program(List<Told> story) {
        StringBuilder text = new StringBuilder("public final class Story {\n");
        text.append("    static int wrong = 0;\n");
        text.append("    static void due(String call, Object got, String want) {\n");
        text.append("        if (!want.equals(String.valueOf(got))) {\n");
        text.append("            wrong++;\n");
        text.append("            System.out.println(\"README.md: \" + call + \" answered \" + got + \", it says \" + want);\n");
        text.append("        }\n    }\n");
        text.append("    public static void main(String[] args) {\n");
        int number = 0;
        for (Told told : story) {
            number++;
            if (told.answer() == null) {
                text.append("        ").append(told.code()).append('\n');
            } else {
                String name = "call " + number + ", " + told.code().replaceAll("(?s)[\"\\\\\n].*", "..");
                text.append("        due(\"").append(name).append("\", ").append(told.code());
                text.append(", \"").append(told.answer()).append("\");\n");
            }
        }
        return text.append("        System.exit(wrong == 0 ? 0 : 1);\n    }\n}\n").toString();
    }

    /** Compiles what is shown with the class, as a reader would, and runs it. */
    private static Sandbox.Outcome run(List<Told> story) throws IOException, InterruptedException {
        Path project = Path.of("").toAbsolutePath();
        try (Sandbox box = new Sandbox()) {
            List<String> command = new ArrayList<>(List.of("javac", "-d", box.root.toString()));
            command.add(project.resolve("src/main/java/TinFen.java").toString());
            for (String text : CLASSES) {
                Matcher m = CLASS.matcher(text);
                command.add(box.write((m.find() ? m.group(1) : "Nameless") + ".java", text).toString());
            }
            command.add(box.write("Story.java", program(story)).toString());
            Sandbox.Outcome compiled = Sandbox.run(box.root, command);
            System.out.print(compiled.printed());
            Check.due("README.md: what it shows compiles", compiled.exit(), 0);
            return Sandbox.run(box.root, List.of("java", "-cp", box.root.toString(), "Story"));
        }
    }
}
