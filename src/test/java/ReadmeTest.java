import java.io.IOException;
import java.nio.charset.StandardCharsets;
import java.nio.file.Files;
import java.nio.file.Path;
import java.util.ArrayList;
import java.util.List;
import java.util.TreeSet;
import java.util.regex.Matcher;
import java.util.regex.Pattern;
import java.util.stream.Stream;

/**
 * README.md: its blocks of Java, one behind another, are made a program, which is compiled by javac and run; each
 * answer that stands behind a call there is due. Its clauses are read as a HOUSE, and its table of tests is whole.
 */
public final class ReadmeTest {
    private static final Pattern BLOCK = Pattern.compile("(?s)```java\n(.*?)```");
    // what stands behind a call: its answer, and behind a colon what that tells
    private static final Pattern ANSWER = Pattern.compile("-?\\d+|true|false|throws \\w+Exception");

    private final StringBuilder members = new StringBuilder();
    private final StringBuilder body = new StringBuilder();
    private final TreeSet<String> asked = new TreeSet<>();
    private final StringBuilder statement = new StringBuilder();

    private void readBlock(String block) {
        if (block.startsWith("static ")) {
            members.append(block);
            return;
        }
        for (String line : block.split("\n")) {
            int at = line.indexOf(" // ");
            statement.append(at < 0 ? line : line.substring(0, at).stripTrailing()).append('\n');
            if (statement.toString().endsWith(";\n")) {
                endStatement(at < 0 ? "" : line.substring(at + 4));
            }
        }
        Check.same("what is left open by a block", statement.toString(), "");
    }

    private void endStatement(String comment) {
        String code = statement.toString().strip();
        statement.setLength(0);
        Matcher named = Pattern.compile("x\\.(\\w+)\\(").matcher(code);
        while (named.find()) {
            asked.add(named.group(1));
        }
        String answer = comment.split(":")[0].strip();
        boolean answers = ANSWER.matcher(answer).matches();
        Check.due("an answer behind " + code + " // " + comment, answers,
            code.startsWith("x.") && !code.equals("x.image();"));
        body.append(answers ? asking(code.substring(0, code.length() - 1), answer) : code).append('\n');
    }

    private static String asking(String call, String answer) {
        String name = '"' + call.replace("\\", "\\\\").replace("\"", "\\\"").replace("\n", " ") + '"';
        if (answer.startsWith("throws ")) {
            return "Check." + (answer.startsWith("throws No") ? "none(" : "illegal(") + name + ", () -> " + call + ");";
        }
        return "Check.due(" + name + ", " + call + ", " + answer + ");";
    }

    private String program() {
        return "public final class ReadmeProgram {\n" + members + "public static void main(String[] args) {\n" + body
            + "Check.end(\"README.md\");\n}\n}\n";
    }

    private static int run(String... command) throws IOException, InterruptedException {
        return new ProcessBuilder(command).inheritIO().start().waitFor();
    }

    private static void compileAndRun(String program) throws IOException, InterruptedException {
        Path out = Files.createTempDirectory("readme");
        Path source = out.resolve("ReadmeProgram.java");
        String path = out + java.io.File.pathSeparator + System.getProperty("java.class.path");
        try {
            Files.writeString(source, program);
            int compiled = run("javac", "-d", out.toString(), "-cp", path, source.toString());
            Check.due("javac of README.md", compiled, 0);
            if (compiled == 0) {
                Check.due("the answers of README.md", run("java", "-cp", path, "ReadmeProgram"), 0);
            } else {
                System.out.println(program);
            }
        } finally {
            try (Stream<Path> files = Files.list(out)) {
                for (Path file : files.toList()) {
                    Files.delete(file);
                }
            }
            Files.delete(out);
        }
    }

    /** The clauses that stand in the table of README.md are each a HOUSE. */
    private static void clauses(String readme) {
        Matcher m = Pattern.compile("`((person|sitting|law|line|off) [^`]*;)`").matcher(readme);
        TreeSet<String> kinds = new TreeSet<>();
        while (m.find()) {
            Check.due("house of " + m.group(1), Check.house(new RubberHall(), m.group(1)), 0);
            kinds.add(m.group(2));
        }
        Check.due("kinds of clauses " + kinds, kinds.size(), 5);
    }

    private static TreeSet<String> face() {
        TreeSet<String> names = new TreeSet<>();
        for (java.lang.reflect.Method m : RubberHall.class.getDeclaredMethods()) {
            if (java.lang.reflect.Modifier.isPublic(m.getModifiers())) {
                names.add(m.getName());
            }
        }
        return names;
    }

    private static void tests(String readme) throws IOException {
        TreeSet<String> there = new TreeSet<>();
        try (Stream<Path> files = Files.list(Path.of("src/test/java"))) {
            for (Path file : files.toList()) {
                String name = file.getFileName().toString();
                if (name.endsWith("Test.java")) {
                    there.add(name.substring(0, name.length() - 5));
                }
            }
        }
        TreeSet<String> told = new TreeSet<>();
        Matcher m = Pattern.compile("(?m)^\\| `(\\w+Test)` \\|").matcher(readme);
        while (m.find()) {
            told.add(m.group(1));
        }
        Check.same("the tests of README.md", told.toString(), there.toString());
    }

    public static void main(String[] args) throws Exception {
        String readme = Files.readString(Path.of("README.md"), StandardCharsets.UTF_8);
        ReadmeTest test = new ReadmeTest();
        List<String> blocks = new ArrayList<>();
        Matcher m = BLOCK.matcher(readme);
        while (m.find()) {
            blocks.add(m.group(1));
        }
        for (String block : blocks) {
            test.readBlock(block);
        }
        Check.same("the calls of README.md", test.asked.toString(), face().toString());
        compileAndRun(test.program());
        clauses(readme);
        tests(readme);
        Check.end("ReadmeTest");
    }
}
