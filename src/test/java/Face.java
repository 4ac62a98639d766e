import java.io.IOException;
import java.nio.file.Files;
import java.nio.file.Path;
import java.util.ArrayList;
import java.util.LinkedHashMap;
import java.util.List;
import java.util.Map;
import java.util.regex.Matcher;
import java.util.regex.Pattern;

/** The public face of the class, as ../shared/DOC.md writes it. */
final class Face {
    /** A method of it; a parameter is its type and its name, as "int part". */
    record Call(String type, String name, List<String> parameters, List<String> exceptions) {
        List<String> parameterNames() {
            return parameters.stream().map(each -> each.replaceFirst(".* ", "")).toList();
        }

        List<String> parameterTypes() {
            return parameters.stream().map(each -> each.replaceFirst(" .*", "")).toList();
        }

        String declaration() {
            String thrown = exceptions.isEmpty() ? "" : " throws " + String.join(", ", exceptions);
            return type + " " + name + "(" + String.join(", ", parameters) + ")" + thrown;
        }
    }

    private static final Pattern CALL = Pattern.compile("(\\w+) (\\w+)\\(([^)]*)\\)(?: throws (.*))?");

    final List<Call> calls = new ArrayList<>();
    final Map<String, Integer> constants = new LinkedHashMap<>();
    /** The lines of the face that are neither a method nor constants. */
    final List<String> rest = new ArrayList<>();
    /** The declarations that stand at the head of the promises. */
    final List<String> promised = new ArrayList<>();

    Face() throws IOException {
        String document = Files.readString(Path.of("../shared/DOC.md"));
        for (String line : block(document).split("\n")) {
            addLine(line.trim());
        }
        Matcher head = Pattern.compile("(?m)^`([^`]*\\)[^`]*)`: ").matcher(document);
        while (head.find()) {
            promised.add(head.group(1));
        }
    }

    /** The Java of a text in Markdown, which has one such block. */
    static String block(String text) {
        Matcher block = Pattern.compile("(?s)```java\n(.*?)```").matcher(text);
        return block.find() ? block.group(1) : "";
    }

    private void addLine(String line) {
        String declared = line.replaceFirst("^public ", "").replaceFirst(";$", "");
        Matcher call = CALL.matcher(declared);
        if (call.matches()) {
            calls.add(new Call(call.group(1), call.group(2), listed(call.group(3)), listed(call.group(4))));
            return;
        }
        Matcher constant = Pattern.compile("(\\w+) = (-?\\d+)").matcher(line);
        int before = constants.size();
        while (constant.find()) {
            constants.put(constant.group(1), Integer.parseInt(constant.group(2)));
        }
        if (constants.size() == before) {
            rest.add(line);
        }
    }

    private static List<String> listed(String text) {
        return text == null || text.isEmpty() ? List.of() : List.of(text.split(", "));
    }
}
