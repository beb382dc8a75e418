import java.io.File;
import java.io.IOException;
import java.lang.reflect.Method;
import java.lang.reflect.Modifier;
import java.nio.file.Files;
import java.nio.file.Path;
import java.util.List;
import java.util.TreeSet;
import java.util.regex.Matcher;
import java.util.regex.Pattern;
import javax.tools.ToolProvider;

/** The examples of README.md answer what it says behind each call, and its table tells each call. */
public final class ReadmeTest {
    private static final Path README = Path.of("README.md");
    private static final Pattern ANSWERED = Pattern.compile("(house\\..*);\\s+// (-?\\d+): .*");
    private static final Pattern TOLD = Pattern.compile("\\| `(\\w+)\\(.*?\\)` \\|.*");

    private static int examples;
    private static int answers;

    public static void main(String[] args) throws Exception {
        List<String> lines = Files.readAllLines(README);
        String program = programOf(lines);
        Check.due("examples", examples, 3);
        Check.holds("answers are told: " + answers, answers > 15);
        runProgram(program);
        everyCallIsTold(lines);
        Check.end();
    }

    /** Makes a block of each example, and a check of each line that tells an answer. */
    private static String programOf(List<String> lines) {
        StringBuilder program = new StringBuilder();
        program.append("public final class ReadmeExamples {\n")
                .append("private static int wrong = 0;\n")
                .append("private static void due(String call, long got, long want) {\n")
                .append("if (got != want) { wrong = 1; System.out.println(call + \" answered \" + got); } }\n")
                .append("public static void main(String[] args) {\n");
        boolean inside = false;
        for (String line : lines) {
            if (line.equals("```java")) {
                inside = true;
                examples++;
                program.append("{\n");
            } else if (inside && line.equals("```")) {
                inside = false;
                program.append("}\n");
            } else if (inside) {
                program.append(statement(line)).append('\n');
            }
        }
        return program.append("System.exit(wrong); } }\n").toString();
    }

    private static String statement(String line) {
        Matcher told = ANSWERED.matcher(line);
        if (!told.matches()) {
            return line;
        }
        answers++;
        return "due(\"" + told.group(1) + "\", " + told.group(1) + ", " + told.group(2) + ");";
    }

    private static void runProgram(String program) throws IOException, InterruptedException {
        Path folder = Files.createTempDirectory("readme");
        Path source = folder.resolve("ReadmeExamples.java");
        try {
            Files.writeString(source, program);
            String classes = System.getProperty("java.class.path") + File.pathSeparator + folder;
            int compiled = ToolProvider.getSystemJavaCompiler().run(null, null, null,
                    "-cp", classes, "-d", folder.toString(), source.toString());
            Check.due("the examples compile", compiled, 0);
            Process run = new ProcessBuilder("java", "-cp", classes, "ReadmeExamples").inheritIO().start();
            Check.due("the examples answer what README.md says", run.waitFor(), 0);
        } finally {
            Files.deleteIfExists(source);
            Files.deleteIfExists(folder.resolve("ReadmeExamples.class"));
            Files.deleteIfExists(folder);
        }
    }

    private static void everyCallIsTold(List<String> lines) {
        TreeSet<String> told = new TreeSet<>();
        for (String line : lines) {
            Matcher call = TOLD.matcher(line);
            if (call.matches()) {
                told.add(call.group(1));
            }
        }
        TreeSet<String> due = new TreeSet<>();
        for (Method method : SevenAsks.class.getDeclaredMethods()) {
            if (Modifier.isPublic(method.getModifiers())) {
                due.add(method.getName());
            }
        }
        Check.holds("README.md tells " + told + ", due is " + due, told.equals(due));
    }
}
