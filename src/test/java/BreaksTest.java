import java.io.IOException;
import java.io.OutputStream;
import java.io.PrintStream;
import java.net.URL;
import java.net.URLClassLoader;
import java.nio.file.Files;
import java.nio.file.Path;
import java.util.ArrayList;
import java.util.List;
import java.util.Set;
import java.util.TreeSet;
import java.util.regex.Matcher;
import java.util.regex.Pattern;
import java.util.stream.Stream;
import javax.tools.ToolProvider;

/** Each sentence's test fails for a class that breaks the sentence: src/test/breaks.txt tells how to break it. */
public final class BreaksTest {
    /** One way to break the class, with the line of the file where it begins. */
    private record Break(int line, String heading, String beginning, List<String> lines) {
        boolean isOf(Sentence sentence) {
            return sentence.heading().equals(heading) && sentence.text().startsWith(beginning);
        }
    }

    private static final Checks t = new Checks("BreaksTest");

    private BreaksTest() {
    }

    public static void main(String[] args) throws IOException, ReflectiveOperationException {
        String text = Files.readString(Path.of(args[0]));
        Path folder = Files.createTempDirectory("breaks");
        Set<String> broken = new TreeSet<>();
        for (Break each : breaks(Path.of("src/test/breaks.txt"))) {
            String name = nameOf(each);
            String brokenText = apply(each, text);
            broken.add(name);
            if (name != null && brokenText != null) {
                String answer = isTold(brokenText, name, folder) ? "told" : "not told";
                t.judge("line " + each.line() + ", told", "line " + each.line() + ", " + answer);
            }
        }
        for (Sentence sentence : Sentence.all()) {
            t.judge("broken: " + sentence.name(), (broken.contains(sentence.name()) ? "" : "not ") + "broken: "
                    + sentence.name());
        }
        clear(folder);
        Files.delete(folder);
        t.end();
    }

    private static List<Break> breaks(Path file) throws IOException {
        List<Break> all = new ArrayList<>();
        List<String> lines = Files.readAllLines(file);
        String[] sentence = {"", ""};
        List<String> open = new ArrayList<>();
        for (int number = 0; number <= lines.size(); number++) {
            String line = number < lines.size() ? lines.get(number) : "";
            if (line.startsWith("- ") || line.startsWith("+ ") || line.equals("-") || line.equals("+")) {
                open.add(line);
                continue;
            }
            if (!open.isEmpty()) {
                all.add(new Break(number + 1 - open.size(), sentence[0], sentence[1], open));
                open = new ArrayList<>();
            }
            if (line.startsWith("@ ")) {
                sentence = line.substring(2).split(" \\| ", 2);
            } else if (line.startsWith("> ")) {
                all.add(new Break(number + 1, sentence[0], sentence[1], List.of(line)));
            }
        }
        return all;
    }

    private static String nameOf(Break one) {
        List<String> names = new ArrayList<>();
        for (Sentence sentence : Sentence.all()) {
            if (one.isOf(sentence)) {
                names.add(sentence.name());
            }
        }
        t.judge("line " + one.line() + " is of 1", "line " + one.line() + " is of " + names.size());
        return names.size() == 1 ? names.get(0) : null;
    }

    private static String apply(Break one, String text) {
        String result = text;
        if (one.lines().get(0).startsWith("> ")) {
            String[] insertion = one.lines().get(0).substring(2).split(": ", 2);
            Pattern start = Pattern.compile("public \\w+ " + insertion[0] + "\\([^)]*\\)[^{]*\\{\\n");
            Matcher matcher = start.matcher(text);
            result = matcher.find() ? text.substring(0, matcher.end()) + insertion[1] + text.substring(matcher.end())
                    : null;
        } else {
            for (int at = 0; at < one.lines().size() && result != null;) {
                String old = joined(one.lines(), at, '-');
                at += old.split("\n", -1).length;
                String given = joined(one.lines(), at, '+');
                at += given.split("\n", -1).length;
                result = replacedOnce(result, old, given);
            }
        }
        t.judge("line " + one.line() + " fits", "line " + one.line() + (result == null ? " does not fit" : " fits"));
        return result;
    }

    /** The text of the lines from there on that begin with the sign. */
    private static String joined(List<String> lines, int from, char sign) {
        List<String> texts = new ArrayList<>();
        for (int at = from; at < lines.size() && lines.get(at).charAt(0) == sign; at++) {
            texts.add(lines.get(at).substring(Math.min(2, lines.get(at).length())));
        }
        return String.join("\n", texts);
    }

    private static String replacedOnce(String text, String old, String given) {
        int at = text.indexOf(old);
        if (at < 0 || text.indexOf(old, at + 1) >= 0) {
            return null;
        }
        return text.substring(0, at) + given + text.substring(at + old.length());
    }

    /** Whether the sentence's test, with this class in place of the right one, tells a wrong answer. */
    private static boolean isTold(String text, String name, Path folder)
            throws IOException, ReflectiveOperationException {
        clear(folder);
        Path source = Files.writeString(folder.resolve("Approvalyard.java"), text);
        int result = ToolProvider.getSystemJavaCompiler().run(null, null, null, "-proc:none", "-d", folder.toString(),
                source.toString());
        t.judge("compiled: " + name, (result == 0 ? "" : "not ") + "compiled: " + name);
        URL[] places = {folder.toUri().toURL(), Path.of(System.getProperty("java.class.path")).toUri().toURL()};
        PrintStream out = System.out;
        System.setOut(new PrintStream(OutputStream.nullOutputStream()));
        try (URLClassLoader loader = new URLClassLoader(places, ClassLoader.getPlatformClassLoader())) {
            Object wrong = loader.loadClass("Sentence").getDeclaredMethod("wrongAnswersOf", String.class)
                    .invoke(null, name);
            return (int) wrong > 0;
        } finally {
            System.setOut(out);
        }
    }

    private static void clear(Path folder) throws IOException {
        try (Stream<Path> files = Files.list(folder)) {
            for (Path file : files.toList()) {
                Files.delete(file);
            }
        }
    }
}
