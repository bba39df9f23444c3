import java.io.IOException;
import java.lang.reflect.InvocationTargetException;
import java.lang.reflect.Method;
import java.lang.reflect.Modifier;
import java.nio.file.Files;
import java.nio.file.Path;
import java.util.ArrayList;
import java.util.List;
import java.util.Map;
import java.util.TreeSet;
import java.util.regex.Matcher;
import java.util.regex.Pattern;
import java.util.stream.Stream;

/** What README.md says of the class, tried: its examples call by call, its table of calls, its list of tests. */
public final class ReadmeTest {
    private static final Path README = Path.of("README.md");
    private static final Path TESTS = Path.of("src", "test", "java");
    private static final String FENCE = "```";
    private static final String NEW_OBJECT = "SlantSlate slate = new SlantSlate();";
    private static final Pattern EXAMPLE = Pattern.compile("slate\\.(\\w+)\\(([^()]*)\\); +// ([^:]+)(:.*)?");
    private static final Pattern ROW = Pattern.compile("\\| `(\\w+)\\(([^()]*)\\)` \\|[^|]*\\|[^|]*\\|([^|]*)\\|");
    private static final Map<Class<?>, String> SHORT_NAMES = Map.of(IllegalArgumentException.class, "argument",
        IllegalStateException.class, "state", IndexOutOfBoundsException.class, "index");
    private static final Pattern TEST = Pattern.compile("- `(\\w+Test)`: .*");

    public static void main(String[] args) throws IOException {
        List<String> lines = Files.readAllLines(README);
        tryExamples(lines);
        compareTable(lines);
        compareTests(lines);
        Check.end("ReadmeTest");
    }

    private static void tryExamples(List<String> lines) {
        TreeSet<String> tried = new TreeSet<>();
        SlantSlate slate = null;
        boolean inExample = false;
        for (String line : lines) {
            if (line.startsWith(FENCE)) {
                inExample = line.equals(FENCE + "java");
            } else if (inExample && line.equals(NEW_OBJECT)) {
                slate = new SlantSlate();
            } else if (inExample) {
                tryLine(line, slate, tried);
            }
        }
        Check.same("the calls in the examples", faceNames(), tried);
    }

    private static void tryLine(String line, SlantSlate slate, TreeSet<String> tried) {
        Matcher example = EXAMPLE.matcher(line);
        boolean readable = example.matches() && slate != null;
        Check.same("can be tried: " + line, true, readable);
        if (readable) {
            tried.add(example.group(1));
            Check.same(line, example.group(3), answer(slate, example.group(1), numbersOf(example.group(2))));
        }
    }

    private static List<Integer> numbersOf(String arguments) {
        List<Integer> numbers = new ArrayList<>();
        for (String argument : arguments.split(", ")) {
            if (argument.startsWith("'")) {
                numbers.add((int) argument.charAt(1));
            } else if (!argument.isEmpty()) {
                numbers.add(Integer.valueOf(argument));
            }
        }
        return numbers;
    }

    private static String answer(SlantSlate slate, String name, List<Integer> arguments) {
        for (Method method : face()) {
            if (method.getName().equals(name) && method.getParameterCount() == arguments.size()) {
                try {
                    Object answer = method.invoke(slate, arguments.toArray());
                    return answer.equals(SlantSlate.NONE) ? "NONE" : answer.toString();
                } catch (InvocationTargetException thrown) {
                    return "throws " + thrown.getCause().getClass().getSimpleName();
                } catch (IllegalAccessException closed) {
                    return "is not public";
                }
            }
        }
        return "there is no such call";
    }

    private static void compareTable(List<String> lines) {
        TreeSet<String> told = new TreeSet<>();
        for (String line : lines) {
            Matcher row = ROW.matcher(line);
            if (row.matches()) {
                String[] arguments = row.group(2).split(", ");
                int count = row.group(2).isEmpty() ? 0 : arguments.length;
                told.add(row.group(1) + " with " + count + " throws " + row.group(3).trim());
            }
        }
        TreeSet<String> due = new TreeSet<>();
        for (Method method : face()) {
            due.add(method.getName() + " with " + method.getParameterCount() + " throws " + shortThrows(method));
        }
        Check.same("the table of calls", due, told);
    }

    /** As the table tells them, in the order of the throws clause. */
    private static String shortThrows(Method method) {
        List<String> names = new ArrayList<>();
        for (Class<?> thrown : method.getExceptionTypes()) {
            names.add(SHORT_NAMES.get(thrown));
        }
        return String.join(", ", names);
    }

    private static void compareTests(List<String> lines) throws IOException {
        TreeSet<String> told = new TreeSet<>();
        for (String line : lines) {
            Matcher test = TEST.matcher(line);
            if (test.matches()) {
                told.add(test.group(1) + ".java");
            }
        }
        TreeSet<String> due = new TreeSet<>();
        try (Stream<Path> files = Files.list(TESTS)) {
            files.map(file -> file.getFileName().toString())
                .filter(name -> name.endsWith("Test.java"))
                .forEach(due::add);
        }
        Check.same("the list of tests", due, told);
    }

    private static List<Method> face() {
        List<Method> methods = new ArrayList<>();
        for (Method method : SlantSlate.class.getDeclaredMethods()) {
            if (Modifier.isPublic(method.getModifiers())) {
                methods.add(method);
            }
        }
        return methods;
    }

    private static TreeSet<String> faceNames() {
        TreeSet<String> names = new TreeSet<>();
        for (Method method : face()) {
            names.add(method.getName());
        }
        return names;
    }
}
