import java.io.IOException;
import java.nio.file.Files;
import java.nio.file.Path;
import java.util.ArrayList;
import java.util.List;
import java.util.Map;
import java.util.TreeSet;
import java.util.regex.Matcher;
import java.util.regex.Pattern;
import java.util.stream.Stream;

/** What README.md says of the use of the class and of the running of its tests is so. */
public final class ReadmeTest {
    /** Arguments that each call takes, if there is a version of each part, and one request. */
    private static final Map<String, Integer> TAKEN = Map.ofEntries(
        Map.entry("part", 2), Map.entry("version", 1), Map.entry("cost", 5), Map.entry("other", 3),
        Map.entry("least", 1), Map.entry("greatest", 3), Map.entry("person", 2), Map.entry("delegate", 3),
        Map.entry("days", 5), Map.entry("limit", 5), Map.entry("request", 0), Map.entry("what", 0));
    private static final List<Class<?>> EXCEPTIONS = List.of(Checks.INDEX, Checks.ARGUMENT, Checks.STATE);
    private static final Pattern RANGE = Pattern.compile("(\\w+) (\\d+|least) to (\\d+)");

    private static final Checks t = new Checks("ReadmeTest");

    private ReadmeTest() {
    }

    public static void main(String[] args) throws IOException, ReflectiveOperationException, InterruptedException {
        String readme = Files.readString(Path.of("README.md"));
        Face face = new Face();
        example(Face.block(readme), face);
        table(readme, face);
        for (Map.Entry<String, Integer> constant : face.constants.entrySet()) {
            String told = "`" + constant.getKey() + " = " + constant.getValue() + "`";
            t.judge(told, readme.contains(told) ? told : "not told");
        }
        tests(readme);
        oneTestAlone(readme);
        t.end();
    }

    /** Each line that calls the class tells in its comment what that answers, and each call stands in one. */
    private static void example(String example, Face face) throws IOException, ReflectiveOperationException {
        Example program = new Example();
        TreeSet<String> called = new TreeSet<>();
        for (String line : example.split("\n")) {
            t.judge("a line that tells its answer", program.add(line) ? "a line that tells its answer" : line);
            Matcher call = Pattern.compile("desk\\.(\\w+)\\(").matcher(line);
            if (call.find()) {
                called.add(call.group(1));
            }
        }
        List<String> names = face.calls.stream().map(Face.Call::name).toList();
        t.judge(new TreeSet<>(names), called);
        for (Example.Line line : program.run()) {
            t.judge(List.of(line.text(), line.due()), List.of(line.text(), line.got()));
        }
    }

    private static void table(String readme, Face face) {
        List<String[]> rows = new ArrayList<>();
        for (String line : readme.split("\n")) {
            if (line.matches("\\| `\\w+\\(.*")) {
                rows.add(line.split("\\s*\\|\\s*", -1));
            }
        }
        t.judge(face.calls.size(), rows.size());
        for (int number = 0; number < rows.size() && number < face.calls.size(); number++) {
            row(rows.get(number), face.calls.get(number));
        }
    }

    /** The cells of a row begin with an empty one. */
    private static void row(String[] cells, Face.Call call) {
        t.judge(7, cells.length);
        t.judge("`" + call.name() + "(" + String.join(", ", call.parameterNames()) + ")`", cells[1]);
        t.judge(call.type().equals("void"), cells[2].isEmpty());
        for (int number = 0; number < EXCEPTIONS.size(); number++) {
            Class<?> exception = EXCEPTIONS.get(number);
            t.judge(call.exceptions().contains(exception.getSimpleName()), !cells[3 + number].isEmpty());
            Matcher range = RANGE.matcher(cells[3 + number]);
            while (range.find()) {
                String least = range.group(2);
                int from = least.equals("least") ? TAKEN.get("least") : Integer.parseInt(least);
                range(call, range.group(1), from, Integer.parseInt(range.group(3)), exception);
            }
        }
    }

    private static void range(Face.Call call, String parameter, int least, int greatest, Class<?> exception) {
        int place = call.parameterNames().indexOf(parameter);
        t.judge(true, place >= 0);
        for (int number : new int[] {least - 1, least, greatest, greatest + 1}) {
            int[] arguments = call.parameterNames().stream().mapToInt(TAKEN::get).toArray();
            arguments[place] = number;
            Approvalyard desk = new Approvalyard();
            for (int part = 0; part < 8; part++) {
                desk.version(part, 1);
            }
            desk.request(0, 0, 1);
            Object got = Checks.answerOf(() -> Calls.answer(desk, call.name(), arguments));
            String asked = call.name() + ", " + parameter + " " + number + " taken: ";
            t.judge(asked + (number >= least && number <= greatest), asked + !got.equals(exception));
        }
    }

    /** Each test is told of, and .ci/run runs them all. */
    private static void tests(String readme) throws IOException {
        TreeSet<String> told = new TreeSet<>();
        Matcher row = Pattern.compile("(?m)^\\| `(\\w+)` \\| .").matcher(readme);
        while (row.find()) {
            told.add(row.group(1) + ".java");
        }
        TreeSet<String> there = new TreeSet<>();
        try (Stream<Path> files = Files.list(Path.of("src/test/java"))) {
            files.map(file -> file.getFileName().toString()).filter(name -> name.endsWith("Test.java"))
                    .forEach(there::add);
        }
        t.judge(there, told);
        t.judge(true, readme.contains("\n    bash .ci/run\n") && Files.isExecutable(Path.of(".ci/run")));
    }

    private static void oneTestAlone(String readme) throws IOException, InterruptedException {
        Matcher block = Pattern.compile("(?s)```sh\n(.*?)```").matcher(readme);
        String commands = block.find() ? block.group(1) : "";
        Process shell = new ProcessBuilder("sh", "-ec", commands).redirectErrorStream(true).start();
        String told = new String(shell.getInputStream().readAllBytes()).trim();
        t.judge(0, shell.waitFor());
        t.judge(told, told.matches("SentencesTest: \\d+ answers as due, 0 not") ? told : "another test's end");
    }
}
