import java.io.IOException;
import java.nio.file.Files;
import java.nio.file.Path;
import java.util.ArrayList;
import java.util.List;

/** A sentence of the document, in the part of it that has that heading, with the test that it holds. */
public record Sentence(String heading, String text, Test test) {
    public interface Test {
        void run(Checks t);
    }

    static List<Sentence> all() {
        List<Sentence> all = new ArrayList<>();
        TermSentences.add(all);
        BookSentences.add(all);
        PartPromises.add(all);
        RequestPromises.add(all);
        ApprovalPromises.add(all);
        return all;
    }

    /** How many answers are not as due; an exception that the test does not expect counts as one. */
    int wrongAnswers() {
        Checks t = new Checks(name());
        try {
            test.run(t);
        } catch (RuntimeException | StackOverflowError e) {
            t.judge("no " + e, e);
        }
        return t.wrong();
    }

    /** The same by the sentence's name, for who loads the tests with a class that is broken. */
    public static int wrongAnswersOf(String name) {
        int wrong = 0;
        for (Sentence sentence : all()) {
            wrong += sentence.name().equals(name) ? sentence.wrongAnswers() : 0;
        }
        return wrong;
    }

    String name() {
        return heading + ", \"" + text + "\"";
    }

    /** The names of all sentences from the terms to the last promise, and of the one that bounds an object's calls. */
    static List<String> namesInDocument(Path document) throws IOException {
        List<String> names = new ArrayList<>();
        String heading = "";
        for (String line : Files.readAllLines(document)) {
            if (line.startsWith("## ") || line.matches("[A-Z ]+")) {
                heading = line.replaceFirst("## ", "").replaceFirst(":.*", "");
            } else if (heading.matches("[A-Z ]+|Promise \\d+") || line.startsWith("An object")) {
                // The signature of a method, or the sign of a row, stands before the sentence.
                String text = line.replaceFirst("^`[^`]*\\)[^`]*`: |^- ", "");
                for (String sentence : text.isEmpty() ? new String[0] : text.split("(?<=\\.) (?=[A-Z`])")) {
                    names.add(heading + ", \"" + sentence + "\"");
                }
            }
        }
        return names;
    }
}
