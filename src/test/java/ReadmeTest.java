import java.io.IOException;
import java.lang.reflect.InvocationTargetException;
import java.lang.reflect.Method;
import java.lang.reflect.Modifier;
import java.nio.file.DirectoryStream;
import java.nio.file.Files;
import java.nio.file.Path;
import java.util.List;
import java.util.regex.Matcher;
import java.util.regex.Pattern;

/**
 * What README.md says is so: its example answers as it says, it tells of every method of the face
 * and of every file of tests. It is run in the folder that README.md is in.
 */
public final class ReadmeTest {
    private static final Pattern CALL =
        Pattern.compile("x\\.(\\w+)\\((.*)\\); *// (\\w+)(:.*)?");
    private static final Pattern ROW = Pattern.compile("\\| `(\\w+)\\(([\\w, ]*)\\)` \\| .+ \\|");

    private ReadmeTest() {
    }

    public static void main(String[] args) throws IOException {
        List<String> lines = Files.readAllLines(Path.of("README.md"));
        exampleAnswersAsItSays(example(lines));
        everyMethodIsUsedAndTold(lines);
        everyTestIsTold(lines);
        Check.finish("ReadmeTest");
    }

    private static List<String> example(List<String> lines) {
        int start = lines.indexOf("```java") + 1;
        List<String> rest = lines.subList(start, lines.size());
        return rest.subList(0, Math.max(rest.indexOf("```"), 0));
    }

    private static void exampleAnswersAsItSays(List<String> example) {
        Check.same("an object is made first", true,
            example.indexOf("GraphCompare x = new GraphCompare();") == 0);
        GraphCompare x = new GraphCompare();
        for (int i = 1; i < example.size(); i++) {
            Matcher call = CALL.matcher(example.get(i));
            boolean isCall = call.matches();
            Check.same(example.get(i) + " is a call with its answer", true, isCall);
            if (isCall) {
                Check.same(example.get(i), call.group(3), answer(x, call.group(1), call.group(2)));
            }
        }
    }

    private static String answer(GraphCompare x, String name, String arguments) {
        String[] texts = arguments.isEmpty() ? new String[0] : arguments.split(", ");
        Method method = publicMethod(name);
        if (method == null || method.getParameterCount() != texts.length) {
            return "no such method";
        }
        Object[] values = new Object[texts.length];
        for (int i = 0; i < values.length; i++) {
            values[i] = value(texts[i], method.getParameterTypes()[i]);
        }
        try {
            return text(method.invoke(x, values));
        } catch (InvocationTargetException e) {
            return e.getCause().getClass().getSimpleName();
        } catch (IllegalAccessException e) {
            return "can't be called";
        }
    }

    private static Object value(String text, Class<?> type) {
        if (type == double.class) {
            return Double.valueOf(text);
        }
        if (type == long.class) {
            return Long.valueOf(text);
        }
        return text.equals("NONE") ? Integer.valueOf(GraphCompare.NONE) : Integer.valueOf(text);
    }

    private static String text(Object answer) {
        boolean isNone = answer.equals(GraphCompare.NONE);
        return isNone ? "NONE" : String.valueOf(answer);
    }

    private static Method publicMethod(String name) {
        for (Method method : GraphCompare.class.getDeclaredMethods()) {
            if (Modifier.isPublic(method.getModifiers()) && method.getName().equals(name)) {
                return method;
            }
        }
        return null;
    }

    private static void everyMethodIsUsedAndTold(List<String> lines) {
        for (Method method : GraphCompare.class.getDeclaredMethods()) {
            if (Modifier.isPublic(method.getModifiers())) {
                String name = method.getName();
                Check.same(name + " is used in the example", true, isUsed(example(lines), name));
                Check.same(name + " is told with its numbers", method.getParameterCount(),
                    toldParameters(lines, name));
            }
        }
    }

    private static boolean isUsed(List<String> example, String name) {
        for (String line : example) {
            if (line.startsWith("x." + name + "(")) {
                return true;
            }
        }
        return false;
    }

    private static int toldParameters(List<String> lines, String name) {
        for (String line : lines) {
            Matcher row = ROW.matcher(line);
            if (row.matches() && row.group(1).equals(name)) {
                return row.group(2).isEmpty() ? 0 : row.group(2).split(", ").length;
            }
        }
        return -1;
    }

    private static void everyTestIsTold(List<String> lines) throws IOException {
        String all = String.join("\n", lines);
        try (DirectoryStream<Path> files = Files.newDirectoryStream(Path.of("src/test/java"))) {
            for (Path file : files) {
                String name = file.getFileName().toString().replace(".java", "");
                Check.same(name + " is told of", true, all.contains("`" + name));
            }
        }
        Check.same("how to run the tests is told", true, all.contains("`.ci/run`"));
    }
}
