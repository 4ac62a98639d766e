import java.io.IOException;
import java.lang.reflect.Field;
import java.lang.reflect.Method;
import java.lang.reflect.Modifier;
import java.nio.file.Files;
import java.nio.file.Path;
import java.util.ArrayList;
import java.util.Arrays;
import java.util.List;
import java.util.regex.Matcher;
import java.util.regex.Pattern;

/** The rules of ../shared/LANGUAGE.md that can be seen from the text of the class or from its members. */
public final class LanguageTest {
    private static final String[] NOT_USED = {
        "->", "::", "\\bimport\\b", "\\bpackage\\b", "\\bcatch\\b", "\\bfinally\\b", "\\bsynchronized\\b",
        "\\bassert\\b", "\\binstanceof\\b", "\\bnull\\b", "\\bObject\\b", "\\bSystem\\b", "\\bString\\b", "\\bMath\\b",
        "\\bInteger\\b", "\\bdouble\\b", "\\bstatic\\s*\\{", "%", "\\bwhile\\b", "@", "\\bequals\\b",
        "\\bhashCode\\b", "\\btoString\\b", "[^\\x00-\\x7f]"
    };

    private static final Checks t = new Checks("LanguageTest");

    public static void main(String[] args) throws IOException {
        String text = Files.readString(Path.of(args[0]));
        String code = withoutTexts(text);
        classes();
        names(new Face());
        words(code);
        machineNeverThrows(code);
        lengths(code);
        made(code);
        t.end();
    }

    private static String withoutTexts(String text) {
        String code = text.replaceAll("(?s)/\\*.*?\\*/", "").replaceAll("//.*", "");
        return code.replaceAll("\"[^\"\\n]*\"", "\"\"");
    }

    private static void classes() {
        Class<?>[] inside = Approvalyard.class.getDeclaredClasses();
        t.judge(true, inside.length <= 11);
        for (Class<?> each : inside) {
            t.judge("private static final", Modifier.toString(each.getModifiers()));
        }
        for (Class<?> each : all()) {
            int own = 0;
            for (Field field : each.getDeclaredFields()) {
                boolean isStatic = Modifier.isStatic(field.getModifiers());
                t.judge(true, !isStatic || Modifier.isFinal(field.getModifiers()));
                own += isStatic ? 0 : 1;
            }
            t.judge(true, own <= 20);
        }
    }

    private static void names(Face face) {
        List<String> names = face.calls.stream().map(Face.Call::name).toList();
        for (Class<?> each : all()) {
            for (Method method : each.getDeclaredMethods()) {
                boolean isFace = Modifier.isPublic(method.getModifiers()) && each == Approvalyard.class;
                t.judge(true, isFace || !names.contains(method.getName()));
                t.judge(true, method.getParameterCount() <= 7);
            }
        }
    }

    private static List<Class<?>> all() {
        List<Class<?>> all = new ArrayList<>(Arrays.asList(Approvalyard.class.getDeclaredClasses()));
        all.add(Approvalyard.class);
        return all;
    }

    private static void words(String code) {
        for (String word : NOT_USED) {
            t.judge(word + " 0 times", word + " " + count(code, word) + " times");
        }
        Matcher thrown = Pattern.compile("\\bthrow\\b([^;]*);").matcher(code);
        while (thrown.find()) {
            String exception = "new (IndexOutOfBounds|IllegalArgument|IllegalState)Exception\\(\"\"\\)";
            t.judge(true, thrown.group(1).trim().matches(exception));
        }
    }

    /** A row tests each index itself, so nothing else may use an array; one division is there, no cast to a class. */
    private static void machineNeverThrows(String code) {
        int start = code.indexOf("private static final class Row {");
        String row = code.substring(start, code.indexOf("\n    }\n", start));
        String rest = code.replace(row, "");
        t.judge(0, count(rest, "\\["));
        t.judge(3, count(row, "cells\\[index\\]"));
        t.judge(1, count(code, "/"));
        t.judge(2, count(code, "\\((float|double|[A-Z]\\w*)\\) "));
    }

    private static int count(String code, String word) {
        int count = 0;
        Matcher matcher = Pattern.compile(word).matcher(code);
        while (matcher.find()) {
            count++;
        }
        return count;
    }

    private static void lengths(String code) {
        for (String line : code.split("\n")) {
            t.judge(true, line.length() <= 120);
        }
        Matcher method = Pattern.compile("(?ms)^( {4}| {8})\\w[^;={}]*\\)[^;={}]*\\{\\n(.*?)^\\1\\}").matcher(code);
        int found = 0;
        while (method.find()) {
            found++;
            t.judge(true, count(method.group(2), "\n") <= 60);
        }
        t.judge(true, found > 50);
    }

    /** All calls of a run live in one room, so a call makes nothing but the exception that it throws. */
    private static void made(String code) {
        Pattern field = Pattern.compile("\\s+((private )?final \\w+ \\w+|book|desk|deskAnew|search|cells) = new .*;");
        for (String line : code.split("\n")) {
            if (line.contains("new ") && !line.contains("throw new ")) {
                t.judge(line + " makes a field", line + (field.matcher(line).matches() ? " makes a field" : ""));
            }
        }
    }
}
