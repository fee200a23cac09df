import java.lang.reflect.InvocationTargetException;
import java.lang.reflect.Method;
import java.lang.reflect.Modifier;
import java.nio.file.Files;
import java.nio.file.Path;
import java.util.ArrayList;
import java.util.List;
import java.util.Set;
import java.util.TreeSet;
import java.util.regex.Matcher;
import java.util.regex.Pattern;

/** README.md: every call that it shows is made here, and its answer held against what it says. */
public final class ReadmeTest {
    private static final Path PAGE = Path.of("README.md");
    private static final String NEW_OBJECT = "TruthWalk x = new TruthWalk();";
    private static final Pattern CALL = Pattern.compile("x\\.(\\w+)\\(([^()]*)\\); +// (-?\\d+)(\\b.*)?");
    private static final Pattern TOLD_CONSTANT = Pattern.compile("\\(([A-Z]+)\\)");
    private static final Pattern CONSTANT = Pattern.compile("\\| `([A-Z]+)` \\| (-\\d+) \\| .*");
    private static final Pattern TEST = Pattern.compile("- `(\\w+Test)`: .*");

    private final Set<String> shown = new TreeSet<>();
    private TruthWalk x = null;
    private int calls = 0;

    private ReadmeTest() {
    }

    private static Method methodOf(String name) {
        for (Method m : TruthWalk.class.getDeclaredMethods()) {
            if (m.getName().equals(name) && Modifier.isPublic(m.getModifiers())) {
                return m;
            }
        }
        throw new IllegalArgumentException("README.md shows " + name + ", which is no call");
    }

    private static Object[] numbersOf(Method m, String text) {
        String[] parts = text.isEmpty() ? new String[0] : text.split(", ");
        Class<?>[] types = m.getParameterTypes();
        if (parts.length != types.length) {
            throw new IllegalArgumentException("README.md gives " + m.getName() + " too much or too little");
        }
        Object[] numbers = new Object[parts.length];
        for (int i = 0; i < parts.length; i++) {
            if (types[i] == boolean.class && !parts[i].equals("true") && !parts[i].equals("false")) {
                throw new IllegalArgumentException(parts[i] + " is neither true nor false");
            }
            numbers[i] = types[i] == boolean.class
                ? (Object) Boolean.valueOf(parts[i]) : (Object) Integer.valueOf(parts[i]);
        }
        return numbers;
    }

    private static int constant(String name) throws ReflectiveOperationException {
        return TruthWalk.class.getField(name).getInt(null);
    }

    private void line(String line) throws ReflectiveOperationException {
        if (line.equals(NEW_OBJECT)) {
            x = new TruthWalk();
            calls = 0;
            return;
        }
        Matcher call = CALL.matcher(line);
        if (!call.matches()) {
            Due.holds("a call and its answer: " + line, false);
            return;
        }
        Method m = methodOf(call.group(1));
        long got;
        try {
            got = ((Number) m.invoke(x, numbersOf(m, call.group(2)))).longValue();
        } catch (InvocationTargetException e) {
            throw new IllegalStateException(line, e.getCause());
        }
        calls++;
        shown.add(m.getName());
        Due.is(line, got, Long.parseLong(call.group(3)));
        Due.holds("at most 512 calls of one object", calls <= 512);
        Matcher told = TOLD_CONSTANT.matcher(line);
        if (told.find()) {
            Due.is(line + " as it is named", got, constant(told.group(1)));
        }
    }

    private void code(List<String> page) throws ReflectiveOperationException {
        boolean inside = false;
        for (String line : page) {
            if (line.startsWith("```")) {
                inside = line.equals("```java");
                x = null;
            } else if (inside) {
                Due.holds("an object ahead of " + line, x != null || line.equals(NEW_OBJECT));
                line(line);
            }
        }
        for (Method m : TruthWalk.class.getDeclaredMethods()) {
            if (Modifier.isPublic(m.getModifiers())) {
                Due.holds(m.getName() + " is shown", shown.contains(m.getName()));
            }
        }
    }

    private static void constants(List<String> page) throws ReflectiveOperationException {
        int found = 0;
        for (String line : page) {
            Matcher row = CONSTANT.matcher(line);
            if (row.matches()) {
                found++;
                Due.is(line, constant(row.group(1)), Long.parseLong(row.group(2)));
            }
        }
        Due.is("constants", found, 9);
    }

    // The page names each test of the project, and no other.
    private static void tests(List<String> page) throws Exception {
        Set<String> named = new TreeSet<>();
        for (String line : page) {
            Matcher test = TEST.matcher(line);
            if (test.matches()) {
                named.add(test.group(1) + ".java");
            }
        }
        Set<String> there = new TreeSet<>();
        try (var files = Files.list(Path.of("src/test/java"))) {
            files.map(f -> f.getFileName().toString()).filter(f -> f.endsWith("Test.java")).forEach(there::add);
        }
        Due.holds("tests named " + named + ", there " + there, named.equals(there));
        Due.holds("the command of all tests", page.contains(".ci/run") && Files.isExecutable(Path.of(".ci/run")));
    }

    public static void main(String[] args) throws Exception {
        Due.about("README.md");
        List<String> page = new ArrayList<>(Files.readAllLines(PAGE));
        new ReadmeTest().code(page);
        constants(page);
        tests(page);
        Due.end("ReadmeTest");
    }
}
