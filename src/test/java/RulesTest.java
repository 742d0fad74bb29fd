import java.io.IOException;
import java.lang.reflect.Constructor;
import java.lang.reflect.Field;
import java.lang.reflect.Method;
import java.lang.reflect.Modifier;
import java.nio.file.Files;
import java.nio.file.Path;
import java.util.List;
import java.util.Set;
import java.util.TreeSet;
import java.util.regex.Matcher;
import java.util.regex.Pattern;
import java.util.stream.Stream;

/** The public face of the document, and those rules of LANGUAGE.md that can be seen from the text. */
public final class RulesTest {
    private static final String[] FACE = {"int status()", "long top()", "long bottom()", "boolean tray(int,int,int)",
        "boolean write(int,int,long)", "long read(int,int)", "boolean pour(int,int,int,int,int)",
        "int feed(int,int,int,int,int)", "int fen(int)", "int years(int)", "int fault(int)", "int many(int)",
        "int worth(int)", "int person(int,int)", "int tin(int,int)", "int copyGot(int)", "int pass(int,int)",
        "int bite(int)", "boolean recite(int,int)", "int drop(int)", "int strike(int,int,boolean)",
        "boolean teach(int,int,boolean)", "int lane(int,int)", "boolean price(int,int)", "boolean rule(int)",
        "int way(int,int)", "int wayAt(int,int,int)", "int reach(int)", "int next(int)", "int round(int)",
        "int roundAt(int,int)", "int most(int)", "int givings(int)", "int given(int,int)", "int cover()",
        "int coverSet()", "int blamed()", "int blamedSet()", "int wheels(int)", "int whose(int,int)",
        "int sure(int,int)", "int ask(int,int)", "int game(int,int,int)", "int moveOf(int,int,int,int)",
        "boolean bites(int,int)", "boolean share(int)", "int live(int)", "int lived(int)", "boolean mean(int,int)",
        "int mark()", "int back()"};

    public static void main(String[] args) throws IOException {
        face();
        inside();
        words();
        sizes();
        testsOfBoundaries();
        Check.end();
    }

    private static void face() {
        Set<String> due = new TreeSet<>(List.of(FACE));
        Set<String> found = new TreeSet<>();
        Set<String> names = new TreeSet<>();
        for (Method m : TinFen.class.getDeclaredMethods()) {
            if (Modifier.isPublic(m.getModifiers())) {
                StringBuilder text = new StringBuilder(m.getReturnType() + " " + m.getName() + "(");
                for (Class<?> type : m.getParameterTypes()) {
                    text.append(text.charAt(text.length() - 1) == '(' ? "" : ",").append(type);
                }
                found.add(text.append(")").toString());
                names.add(m.getName());
            }
        }
        Check.due("the public methods are those of the document: " + found, found.equals(due), true);
        for (Method m : TinFen.class.getDeclaredMethods()) {
            boolean open = Modifier.isPublic(m.getModifiers());
            Check.due(m + " is public or private", open || Modifier.isPrivate(m.getModifiers()), true);
            Check.due(m + " bears no public name", open || !names.contains(m.getName()), true);
        }
        for (Class<?> c : TinFen.class.getDeclaredClasses()) {
            for (Method m : c.getDeclaredMethods()) {
                Check.due(m + " bears no public name", names.contains(m.getName()), false);
            }
        }
        for (Field f : TinFen.class.getDeclaredFields()) {
            boolean none = f.getName().equals("NONE");
            Check.due(f + " is public or private", none ? Modifier.isPublic(f.getModifiers()) : Modifier.isPrivate(f.getModifiers()), true);
        }
        Constructor<?>[] made = TinFen.class.getDeclaredConstructors();
        Check.due("one constructor", made.length, 1);
        Check.due("public, without parameters", Modifier.isPublic(made[0].getModifiers()) && made[0].getParameterCount() == 0, true);
        Check.due("final", Modifier.isFinal(TinFen.class.getModifiers()), true);
        Check.due("NONE", TinFen.NONE, -1);
    }

    private static void inside() {
        Check.due("at most twelve classes", TinFen.class.getDeclaredClasses().length + 1 <= 12, true);
        for (Class<?> c : TinFen.class.getDeclaredClasses()) {
            Check.due(c + " is static", Modifier.isStatic(c.getModifiers()), true);
            Check.due(c + " is not public", Modifier.isPublic(c.getModifiers()), false);
            fields(c);
        }
        fields(TinFen.class);
    }

    private static void fields(Class<?> c) {
        int many = 0;
        for (Field f : c.getDeclaredFields()) {
            boolean constant = Modifier.isStatic(f.getModifiers());
            many += constant ? 0 : 1;
            Check.due(f + " is final, if static", !constant || Modifier.isFinal(f.getModifiers()), true);
        }
        Check.due(c + " has at most twenty fields", many <= 20, true);
        for (Method m : c.getDeclaredMethods()) {
            Check.due(m + " has at most seven parameters", m.getParameterCount() <= 7, true);
        }
    }

    private static String source() throws IOException {
        return Files.readString(Path.of("src/main/java/TinFen.java"));
    }

    private static void words() throws IOException {
        String code = source().replaceAll("(?s)/\\*.*?\\*/", "").replaceAll("//[^\n]*", "").replaceAll("\"[^\"]*\"", "\"\"");
        String[] never = {"throw", "throws", "try", "catch", "synchronized", "assert", "package", "Exact", "System\\.out",
            "hashCode", "toString", "Object", "Random", "Thread", "var", "->", "::", "Exception", "volatile"};
        for (String word : never) {
            boolean sign = !Character.isLetter(word.charAt(0));
            Matcher m = Pattern.compile(sign ? word : "\\b" + word + "\\b").matcher(code);
            Check.due("no " + word, m.find(), false);
        }
        Matcher imports = Pattern.compile("import [^;]*;").matcher(code);
        while (imports.find()) {
            Check.due(imports.group(), imports.group().equals("import java.util.Arrays;"), true);
        }
        Matcher calls = Pattern.compile("\\b(Arrays|System|Math|Integer|Long)\\.(\\w+)").matcher(code);
        Set<String> allowed = Set.of("Arrays.fill", "System.arraycopy", "Math.max", "Math.min", "Integer.bitCount",
            "Long.bitCount");
        while (calls.find()) {
            Check.due(calls.group() + " is allowed", allowed.contains(calls.group()), true);
        }
        Check.due("signs 1 to 127 alone", source().chars().allMatch(c -> c > 0 && c < 128), true);
    }

    /** Each promise, section and heading with boundaries has tests that are named after it. */
    private static void testsOfBoundaries() throws IOException {
        StringBuilder tests = new StringBuilder();
        List<Path> files;
        try (Stream<Path> all = Files.list(Path.of("src/test/java"))) {
            files = all.filter(f -> f.toString().endsWith("Test.java")).toList();
        }
        for (Path file : files) {
            tests.append(Files.readString(file));
        }
        for (int promise = 1; promise <= 52; promise++) {
            String name = String.format("void promise%02d_", promise);
            Check.due("a test " + name, tests.indexOf(name) >= 0, true);
        }
        for (String name : new String[] {"terms_", "section2_", "section3_", "section4_", "section5_"}) {
            Check.due("a test " + name, tests.indexOf("void " + name) >= 0, true);
        }
    }

    private static void sizes() throws IOException {
        String[] lines = source().split("\n");
        int start = -1;
        int indent = 0;
        boolean constructor = false;
        Pattern method = Pattern.compile("^( +)(?!return|else|if|for|while|switch)[\\w\\[\\] .<>]*\\w\\([^;]*\\) \\{$");
        for (int i = 0; i < lines.length; i++) {
            Matcher m = method.matcher(lines[i]);
            if (start < 0 && m.find()) {
                start = i;
                indent = m.group(1).length();
                constructor = lines[i].trim().matches("(public )?[A-Z].*");
            }
            boolean making = lines[i].matches(".*\\bnew \\w.*") && !lines[i].trim().startsWith("*") && !lines[i].trim().startsWith("/");
            Check.due("line " + (i + 1) + " makes nothing in a method", making && start >= 0 && !constructor, false);
            Check.due("line " + (i + 1) + " is not too long", lines[i].length() <= 120, true);
            if (start >= 0 && lines[i].equals(" ".repeat(indent) + "}")) {
                Check.due("method at line " + (start + 1) + " is short", i - start + 1 <= 60, true);
                start = -1;
            }
        }
    }
}
