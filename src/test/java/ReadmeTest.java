import java.io.IOException;
import java.lang.reflect.InvocationTargetException;
import java.lang.reflect.Method;
import java.lang.reflect.Modifier;
import java.nio.file.Files;
import java.nio.file.Path;
import java.util.List;
import java.util.regex.Matcher;
import java.util.regex.Pattern;
import java.util.stream.Collectors;
import java.util.stream.Stream;

/** README.md: its example answers what it says, and it names each call and each test. */
public final class ReadmeTest {
    private static final Pattern MADE = Pattern.compile("LatticePaths x = new LatticePaths\\(\\);");
    private static final Pattern CALL = Pattern.compile("(int path = )?x\\.(\\w+)\\(([^)]*)\\); +// (-?\\d+|true|false)\\b.*");
    private static final Pattern TYPED = Pattern.compile("for \\(char c : \"([^\"]*)\"\\.toCharArray\\(\\)\\) \\{");
    private static final String APPENDED = "x.append(c);";
    private static final String END = "}";

    private static final Due due = new Due("ReadmeTest");

    private LatticePaths x;
    private String path = "";
    private String typed = "";
    private int calls;

    public static void main(String[] args) throws IOException, ReflectiveOperationException {
        String page = Files.readString(Path.of("README.md"));
        new ReadmeTest().runExample(page);
        namesEachCall(page);
        namesEachTest(page);
        due.end();
    }

    private void runExample(String page) throws ReflectiveOperationException {
        Matcher example = Pattern.compile("```java\n(.*?)```", Pattern.DOTALL).matcher(page);
        due.holds("there is an example", example.find());
        for (String line : example.group(1).split("\n")) {
            runLine(line.strip());
        }
        due.holds("the example has calls with their answers", calls > 10);
    }

    /** A line that is none of the known ones is wrong: nothing of the example is left out. */
    private void runLine(String line) throws ReflectiveOperationException {
        Matcher call = CALL.matcher(line);
        Matcher loop = TYPED.matcher(line);
        if (MADE.matcher(line).matches()) {
            x = new LatticePaths();
        } else if (call.matches()) {
            String answer = answer(call.group(2), call.group(3));
            due.tells(line, call.group(4), answer);
            path = call.group(1) == null ? path : answer;
            calls++;
        } else if (loop.matches()) {
            typed = loop.group(1);
        } else if (line.equals(APPENDED)) {
            typed.chars().forEach(x::append);
        } else {
            due.tells("a line of the example", END, line);
        }
    }

    private String answer(String name, String words) throws ReflectiveOperationException {
        String[] arguments = words.isEmpty() ? new String[0] : words.split(", ");
        Object[] values = new Object[arguments.length];
        for (int index = 0; index < values.length; index++) {
            values[index] = Integer.valueOf(arguments[index].equals("path") ? path : arguments[index]);
        }
        try {
            return String.valueOf(callOf(name).invoke(x, values));
        } catch (InvocationTargetException thrown) {
            return String.valueOf(thrown.getCause());
        }
    }

    private static Method callOf(String name) throws NoSuchMethodException {
        for (Method method : face()) {
            if (method.getName().equals(name)) {
                return method;
            }
        }
        throw new NoSuchMethodException(name);
    }

    private static List<Method> face() {
        return Stream.of(LatticePaths.class.getDeclaredMethods())
                .filter(method -> Modifier.isPublic(method.getModifiers())).collect(Collectors.toList());
    }

    private static void namesEachCall(String page) {
        for (Method method : face()) {
            due.holds(method.getName() + " is named", page.contains("`" + method.getName() + "`"));
        }
    }

    private static void namesEachTest(String page) throws IOException {
        try (Stream<Path> files = Files.list(Path.of("src/test/java"))) {
            List<String> names = files.map(file -> file.getFileName().toString())
                    .filter(name -> name.endsWith("Test.java")).collect(Collectors.toList());
            due.holds("the tests are found", names.contains("ReadmeTest.java"));
            for (String name : names) {
                due.holds(name + " is named", page.contains("| " + name.replace(".java", "") + " |"));
            }
        }
    }
}
