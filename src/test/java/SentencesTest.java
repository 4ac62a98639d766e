import java.io.IOException;
import java.nio.file.Path;
import java.util.ArrayList;
import java.util.List;

/** Each sentence of the document has one test of its own, and holds. */
public final class SentencesTest {
    private SentencesTest() {
    }

    public static void main(String[] args) throws IOException {
        Checks t = new Checks("SentencesTest");
        List<String> tested = new ArrayList<>();
        for (Sentence sentence : Sentence.all()) {
            tested.add(sentence.name());
            t.judge("0 answers not as due", sentence.wrongAnswers() + " answers not as due");
        }
        List<String> written = Sentence.namesInDocument(Path.of("../shared/DOC.md"));
        for (String name : written) {
            t.judge("a test for " + name, (tested.contains(name) ? "a" : "no") + " test for " + name);
        }
        for (String name : tested) {
            t.judge("written: " + name, (written.contains(name) ? "" : "not ") + "written: " + name);
        }
        t.judge(written.size(), tested.size());
        t.end();
    }
}
