import java.io.IOException;
import java.lang.reflect.Method;
import java.lang.reflect.Modifier;
import java.nio.file.Files;
import java.nio.file.Path;
import java.util.ArrayList;
import java.util.List;
import java.util.regex.Matcher;
import java.util.regex.Pattern;

/** README.md: what its examples tell is what the class answers, and it names every call and every error. */
public final class ReadmeTest {
    private static final Path README = Path.of("README.md");
    private static final String NEW_RAFT = "LampLatitudes raft = new LampLatitudes();";
    private static final Pattern EXAMPLE = Pattern.compile("raft\\.(\\w+)\\((.*?)\\); +// (-?\\d+)(?:: .*)?");
    private static final Pattern NAME_OF_ERROR = Pattern.compile("// (-\\d): ([A-Z_]+).*");
    private static final int LEAST_EXAMPLES = 25;
    private static final String CONSTANT = "LampLatitudes.";

    private LampLatitudes raft = new LampLatitudes();
    private int examples = 0;

    public static void main(String[] args) throws ReflectiveOperationException, IOException {
        List<String> lines = Files.readAllLines(README);
        new ReadmeTest().makeExamples(lines);
        namesEveryCall(String.join("\n", lines));
        namesEveryConstant(String.join("\n", lines));
        namesTheTests(String.join("\n", lines));
        Due.end();
    }

    private void makeExamples(List<String> lines) throws ReflectiveOperationException {
        for (String line : lines) {
            if (line.equals(NEW_RAFT)) {
                raft = new LampLatitudes();
            } else if (line.startsWith("raft.")) {
                makeExample(line);
            }
        }
        Due.due("examples, or enough of them", Math.min(examples, LEAST_EXAMPLES), LEAST_EXAMPLES);
    }

    private void makeExample(String line) throws ReflectiveOperationException {
        Matcher example = EXAMPLE.matcher(line);
        Due.due("an example with its answer: " + line, example.matches() ? 1 : 0, 1);
        if (example.matches()) {
            examples++;
            Due.due("README.md: " + line, call(example.group(1), example.group(2)), Integer.parseInt(example.group(3)));
        }
        Matcher error = NAME_OF_ERROR.matcher(line.substring(Math.max(0, line.indexOf("//"))));
        if (error.matches() && error.group(2).length() > 1) {
            Due.due("the error that is named in " + line, constant(error.group(2)), Integer.parseInt(error.group(1)));
        }
    }

    private int call(String name, String arguments) throws ReflectiveOperationException {
        List<Long> numbers = new ArrayList<>();
        for (String argument : arguments.isEmpty() ? new String[0] : arguments.split(", ")) {
            numbers.add(number(argument));
        }
        Method method = methodNamed(name);
        Object[] given = new Object[numbers.size()];
        for (int i = 0; i < given.length; i++) {
            boolean isLong = method.getParameterTypes()[i] == long.class;
            given[i] = isLong ? (Object) numbers.get(i) : (Object) Math.toIntExact(numbers.get(i));
        }
        return (int) method.invoke(raft, given);
    }

    private static Method methodNamed(String name) throws NoSuchMethodException {
        for (Method method : LampLatitudes.class.getMethods()) {
            if (method.getDeclaringClass() == LampLatitudes.class && method.getName().equals(name)) {
                return method;
            }
        }
        throw new NoSuchMethodException(name);
    }

    private static long number(String argument) throws ReflectiveOperationException {
        if (argument.startsWith(CONSTANT)) {
            return constant(argument.substring(CONSTANT.length()));
        }
        return Long.decode(argument.endsWith("L") ? argument.substring(0, argument.length() - 1) : argument);
    }

    private static int constant(String name) throws ReflectiveOperationException {
        return LampLatitudes.class.getField(name).getInt(null);
    }

    private static void namesEveryCall(String text) {
        for (Method method : LampLatitudes.class.getDeclaredMethods()) {
            if (Modifier.isPublic(method.getModifiers())) {
                boolean named = Pattern.compile("`" + method.getName() + "\\([^`]*\\)`").matcher(text).find();
                Due.due("README.md names " + method.getName(), named ? 1 : 0, 1);
            }
        }
    }

    private static void namesEveryConstant(String text) throws ReflectiveOperationException {
        for (String name : new String[] {"NO_SUCH", "BAD_VALUE", "BAD_TEXT", "TOO_MANY", "NOT_POSSIBLE", "NONE"}) {
            Due.due("README.md tells " + name, text.contains("`" + name + "` (" + constant(name) + ")") ? 1 : 0, 1);
        }
        for (String name : new String[] {"DRIFT", "PULL", "QUARREL", "LOW"}) {
            Due.due("README.md names " + name, text.contains("`" + name + "`") ? 1 : 0, 1);
        }
    }

    private static void namesTheTests(String text) {
        Due.due("README.md says how to run the tests", text.contains("`bash .ci/run`") ? 1 : 0, 1);
        Matcher file = Pattern.compile("src/test/java/\\w+\\.java").matcher(text);
        while (file.find()) {
            Due.due("there is " + file.group(), Files.exists(Path.of(file.group())) ? 1 : 0, 1);
        }
    }
}
