import java.io.IOException;
import java.lang.reflect.InvocationTargetException;
import java.lang.reflect.Method;
import java.nio.file.Files;
import java.nio.file.Path;
import java.util.ArrayList;
import java.util.List;
import java.util.regex.Matcher;
import java.util.regex.Pattern;

/** The examples of README.md answer what is said beside them, and it tells of every method. */
public final class ReadmeTest {
    private static final Check CHECK = new Check();
    private static final Path README = Path.of("README.md");
    private static final Path DOCUMENT = Path.of("..", "shared", "DOC.md");
    private static final String NEW_OBJECT = "RouteEngine engine = new RouteEngine();";
    private static final Pattern WRITE = Pattern.compile("write\\(engine, (\\d), \"(.*)\"\\);");
    private static final Pattern CALL = Pattern.compile("engine\\.(\\w+)\\((.*)\\);(?: +// (-?\\w+).*)?");

    private static Engine engine;

    public static void main(String[] args) throws IOException, ReflectiveOperationException {
        List<String> lines = Files.readAllLines(README);
        List<String> called = runExamples(lines);
        for (Method method : RouteEngine.class.getMethods()) {
            if (method.getDeclaringClass() == RouteEngine.class) {
                CHECK.yes("an example calls or writes with " + method.getName(), called.contains(method.getName()));
            }
        }
        tellsOfEveryMethod(lines);
        CHECK.end();
    }

    /** Answers the names of the methods that the examples call. */
    private static List<String> runExamples(List<String> lines) throws ReflectiveOperationException {
        List<String> called = new ArrayList<>(List.of("put", "clear"));
        boolean inExample = false;
        for (String line : lines) {
            if (line.startsWith("```")) {
                inExample = line.equals("```java example");
            } else if (inExample) {
                called.add(runLine(line));
            }
        }
        return called;
    }

    private static String runLine(String line) throws ReflectiveOperationException {
        Matcher write = WRITE.matcher(line);
        Matcher call = CALL.matcher(line);
        if (line.equals(NEW_OBJECT)) {
            engine = new Engine();
            return "";
        }
        if (write.matches()) {
            int r = Integer.parseInt(write.group(1));
            CHECK.yes(line, engine.clear(r));
            CHECK.append(engine, r, write.group(2));
            return "";
        }
        CHECK.yes("an example is made of calls: " + line, call.matches());
        Object answer = answer(call.group(1), call.group(2));
        CHECK.same(line, String.valueOf(answer), String.valueOf(call.group(3)));
        return call.group(1);
    }

    private static Object answer(String name, String arguments) throws ReflectiveOperationException {
        List<Object> values = new ArrayList<>();
        for (String argument : arguments.isEmpty() ? new String[0] : arguments.split(", ")) {
            boolean isTruth = argument.equals("true") || argument.equals("false");
            values.add(isTruth ? (Object) Boolean.valueOf(argument) : (Object) Integer.valueOf(argument));
        }
        for (Method method : Engine.class.getDeclaredMethods()) {
            if (method.getName().equals(name) && method.getParameterCount() == values.size()) {
                return answer(method, values.toArray());
            }
        }
        throw new IllegalStateException("there is no such method: " + name);
    }

    private static Object answer(Method method, Object[] values) throws ReflectiveOperationException {
        try {
            return method.invoke(engine, values);
        } catch (InvocationTargetException e) {
            throw new IllegalStateException(method.getName() + " threw", e.getCause());
        }
    }

    /** The table of methods has a row for every method of the document's face. */
    private static void tellsOfEveryMethod(List<String> lines) throws IOException {
        if (!Files.exists(DOCUMENT)) {
            return;
        }
        int methods = 0;
        for (String line : Files.readAllLines(DOCUMENT)) {
            Matcher method = Pattern.compile(" +public ((?:int|boolean|void) \\w+\\(.*\\));").matcher(line);
            if (method.matches()) {
                methods++;
                String row = "| `" + method.group(1) + "` |";
                CHECK.yes("README.md has a row for " + row, lines.stream().anyMatch(x -> x.startsWith(row)));
            }
        }
        CHECK.due("the methods of the document's face", methods, 14);
    }
}
