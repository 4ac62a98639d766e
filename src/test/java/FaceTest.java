import java.io.IOException;
import java.lang.reflect.Constructor;
import java.lang.reflect.Field;
import java.lang.reflect.Method;
import java.lang.reflect.Modifier;
import java.nio.file.Files;
import java.nio.file.Path;
import java.util.ArrayList;
import java.util.Arrays;
import java.util.List;
import java.util.TreeSet;

/** The class has the public face that the document writes, to the names of the parameters, and no more. */
public final class FaceTest {
    private static final Checks t = new Checks("FaceTest");

    private FaceTest() {
    }

    public static void main(String[] args) throws IOException {
        Face face = new Face();
        t.judge(List.of("public final class Approvalyard {", "public Approvalyard();", "}"), face.rest);
        t.judge("public final", Modifier.toString(Approvalyard.class.getModifiers()));
        t.judge(Object.class, Approvalyard.class.getSuperclass());
        t.judge(0, Approvalyard.class.getInterfaces().length);
        constructor();
        constants(face);
        calls(face);
        names(face, Files.readString(Path.of(args[0])));
        promises(face);
        t.end();
    }

    private static void constructor() {
        Constructor<?>[] constructors = Approvalyard.class.getDeclaredConstructors();
        t.judge(1, constructors.length);
        t.judge("public Approvalyard()", constructors[0].toGenericString());
    }

    private static void constants(Face face) {
        List<String> written = new ArrayList<>();
        face.constants.forEach((name, value) -> written.add("public static final int " + name + " = " + value));
        List<String> own = new ArrayList<>();
        for (Field field : Approvalyard.class.getDeclaredFields()) {
            if (!Modifier.isPrivate(field.getModifiers())) {
                own.add(Modifier.toString(field.getModifiers()) + " " + field.getType() + " " + field.getName()
                        + " = " + Checks.answerOf(() -> valueOf(field)));
            }
        }
        t.judge(4, written.size());
        t.judge(new TreeSet<>(written), new TreeSet<>(own));
    }

    private static Object valueOf(Field field) {
        try {
            return field.get(null);
        } catch (ReflectiveOperationException e) {
            throw new IllegalStateException(e);
        }
    }

    private static void calls(Face face) {
        List<String> written = new ArrayList<>();
        for (Face.Call call : face.calls) {
            written.add("public " + call.type() + " " + call.name() + call.parameterTypes() + call.exceptions());
        }
        List<String> own = new ArrayList<>();
        for (Method method : Approvalyard.class.getDeclaredMethods()) {
            if (!Modifier.isPrivate(method.getModifiers())) {
                own.add(Modifier.toString(method.getModifiers()) + " " + method.getReturnType() + " "
                        + method.getName() + namesOf(method.getParameterTypes())
                        + namesOf(method.getExceptionTypes()));
            }
        }
        t.judge(15, written.size());
        t.judge(new TreeSet<>(written), new TreeSet<>(own));
    }

    private static List<String> namesOf(Class<?>[] types) {
        return Arrays.stream(types).map(Class::getSimpleName).toList();
    }

    /** The names of the parameters are in the text of the class alone. */
    private static void names(Face face, String text) {
        String inOneLine = text.replaceAll("\\s+", " ");
        for (Face.Call call : face.calls) {
            String declaration = "public " + call.declaration() + " {";
            t.judge(declaration, inOneLine.contains(declaration) ? declaration : "another declaration");
        }
    }

    /** A declaration that was changed at the head of a promise alone would be seen by no other test. */
    private static void promises(Face face) {
        List<String> written = new ArrayList<>(List.of("Approvalyard()"));
        face.calls.forEach(call -> written.add(call.declaration()));
        t.judge(written, face.promised);
    }
}
