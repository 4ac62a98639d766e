import java.io.IOException;
import java.net.URL;
import java.net.URLClassLoader;
import java.nio.file.Files;
import java.nio.file.Path;
import java.util.ArrayList;
import java.util.List;
import java.util.regex.Matcher;
import java.util.regex.Pattern;
import javax.tools.ToolProvider;

/** An example of the use of the class, whose lines tell in their comments what they answer. */
final class Example {
    /** What a line answers, and what it says. */
    record Line(String text, Object got, Object due) {
    }

    private static final Pattern ANSWERS = Pattern.compile("(?:int (\\w+) = )?(.*); +// answers ([^:]*)(?:: .*)?");
    private static final Pattern THROWS = Pattern.compile("(.*;) +// throws (\\w+)(?:: .*)?");
    private static final Pattern NO_ANSWER = Pattern.compile("(desk\\.release\\(\\w+\\);) +// no answer");
    private static final String MADE = "Approvalyard desk = new Approvalyard();";

    private final List<String> lines = new ArrayList<>();
    private final StringBuilder program = new StringBuilder();

    /** Whether it is such a line, or a comment, or empty, or the one that makes the desk. */
    boolean add(String line) {
        Matcher answers = ANSWERS.matcher(line);
        Matcher exception = THROWS.matcher(line);
        if (answers.matches()) {
            String value = answers.group(1) == null ? answers.group(2) : answers.group(1);
            String made = answers.group(1) == null ? "" : "int " + value + " = " + answers.group(2) + ";\n";
            program.append(made).append("got.add(").append(value).append(");\n");
            addDue(line, answers.group(3));
        } else if (exception.matches()) {
            program.append("try {\n").append(exception.group(1)).append("\ngot.add(\"no exception\");\n")
                    .append("} catch (RuntimeException e) {\ngot.add(e.getClass().getSimpleName());\n}\n");
            addDue(line, "\"" + exception.group(2) + "\"");
        } else if (!line.isEmpty() && !line.startsWith("//") && !line.equals(MADE)
                && !NO_ANSWER.matcher(line).matches()) {
            return false;
        } else {
            program.append(line).append('\n');
        }
        return true;
    }

    private void addDue(String line, String due) {
        lines.add(line);
        program.append("due.add(").append(due).append(");\n");
    }

    List<Line> run() throws IOException, ReflectiveOperationException {
        List<Object> got = new ArrayList<>();
        List<Object> due = new ArrayList<>();
        Path folder = Files.createTempDirectory("example");
        try {
            runIn(folder, got, due);
        } finally {
            Files.deleteIfExists(folder.resolve("Shown.class"));
            Files.deleteIfExists(folder.resolve("Shown.java"));
            Files.delete(folder);
        }
        List<Line> all = new ArrayList<>();
        for (int number = 0; number < lines.size(); number++) {
            boolean isThere = number < due.size();
            all.add(new Line(lines.get(number), isThere ? got.get(number) : "not compiled",
                    isThere ? due.get(number) : "compiled"));
        }
        return all;
    }

    private void runIn(Path folder, List<Object> got, List<Object> due)
            throws IOException, ReflectiveOperationException {
        String list = "java.util.List<Object> ";
        Path source = Files.writeString(folder.resolve("Shown.java"), "public final class Shown {\npublic static void"
                + " run(" + list + "got, " + list + "due) {\n" + program + "}\n}\n");
        int result = ToolProvider.getSystemJavaCompiler().run(null, null, null, "-proc:none", "-cp",
                System.getProperty("java.class.path"), "-d", folder.toString(), source.toString());
        try (URLClassLoader loader = new URLClassLoader(new URL[] {folder.toUri().toURL()})) {
            if (result == 0) {
                loader.loadClass("Shown").getMethod("run", List.class, List.class).invoke(null, got, due);
            }
        }
    }
}
