import java.io.ByteArrayOutputStream;
import java.io.IOException;
import java.io.PrintStream;
import java.io.UncheckedIOException;
import java.lang.reflect.Method;
import java.lang.reflect.Modifier;
import java.nio.charset.StandardCharsets;
import java.nio.file.Files;
import java.nio.file.Path;
import java.util.ArrayList;
import java.util.List;
import java.util.Map;
import java.util.Set;
import java.util.TreeSet;
import java.util.regex.Matcher;
import java.util.regex.Pattern;
import java.util.stream.Collectors;
import java.util.stream.Stream;

/** What README.md shows: its calls answer as it says, its program prints it, its tests are there. */
public final class ReadmeTest {
    private static final Path README = Path.of("README.md"), TESTS = Path.of("src", "test", "java");
    private static final Pattern BLOCK = Pattern.compile("(?ms)^```(java|text)\n(.*?)^```$");
    private static final Pattern MADE = Pattern.compile("LineMill mill = new LineMill\\(\\);");
    private static final Pattern CALL = Pattern.compile(
        "mill\\.(\\w+)\\(([^()]*)\\);(?: +// (-?\\d+|0x[0-9A-F]+|BAD|NONE|FULL): .*)?");
    private static final Map<String, Integer> CONSTANTS =
        Map.of("BAD", LineMill.BAD, "NONE", LineMill.NONE, "FULL", LineMill.FULL);

    private static final Checks checks = new Checks();
    private static final Set<String> shown = new TreeSet<>();

    public static void main(String[] args) throws ReflectiveOperationException {
        String readme = read(README);
        List<String> java = blocks(readme, "java");
        int calls = 0;
        for (String block : java) {
            if (!block.contains(" class ")) {
                calls(block);
                calls++;
            }
        }
        checks.due("blocks of calls", Math.min(calls, 1), 1);
        checks.due("methods that are shown", shown.toString(), publicMethods());
        program(java, blocks(readme, "text"));
        testsAreNamed(readme);
        checks.finish("ReadmeTest");
    }

    private static List<String> blocks(String readme, String kind) {
        List<String> found = new ArrayList<>();
        Matcher block = BLOCK.matcher(readme);
        while (block.find()) {
            if (block.group(1).equals(kind)) {
                found.add(block.group(2));
            }
        }
        return found;
    }

    /** Each row makes an object or is one call on it with its answer; only begin() has none. */
    private static void calls(String block) throws ReflectiveOperationException {
        LineMill mill = null;
        for (String row : block.split("\n")) {
            Matcher call = CALL.matcher(row);
            if (MADE.matcher(row).matches()) {
                mill = new LineMill();
            } else if (mill == null || !call.matches()) {
                checks.due("the row <" + row + ">", "no call with an answer", "a call with an answer");
            } else {
                call(mill, row, call);
            }
        }
    }

    private static void call(LineMill mill, String row, Matcher call) throws ReflectiveOperationException {
        Method method = method(call.group(1));
        shown.add(method.getName());
        String[] words = call.group(2).isEmpty() ? new String[0] : call.group(2).split(", ");
        Object[] arguments = new Object[words.length];
        for (int i = 0; i < words.length; i++) {
            boolean isInt = method.getParameterTypes()[i] == int.class;
            arguments[i] = isInt ? (Object) Integer.decode(words[i]) : (Object) literal(words[i]);
        }
        Object answer = method.invoke(mill, arguments);
        String want = call.group(3);
        checks.due(row + " has an answer", want == null ? 0 : 1, answer == null ? 0 : 1);
        if (want != null && answer != null) {
            checks.due(row, ((Number) answer).longValue(), literal(want));
        }
    }

    private static Long literal(String word) {
        return CONSTANTS.containsKey(word) ? CONSTANTS.get(word).longValue() : Long.decode(word.replaceAll("L$", ""));
    }

    private static Method method(String name) {
        for (Method method : LineMill.class.getDeclaredMethods()) {
            if (method.getName().equals(name) && Modifier.isPublic(method.getModifiers())) {
                return method;
            }
        }
        throw new IllegalArgumentException("no method " + name);
    }

    private static String publicMethods() {
        return Stream.of(LineMill.class.getDeclaredMethods())
            .filter(method -> Modifier.isPublic(method.getModifiers()))
            .map(Method::getName).collect(Collectors.toCollection(TreeSet::new)).toString();
    }

    /** The program that is shown is the one that is compiled with the tests, and prints what is shown. */
    private static void program(List<String> java, List<String> text) {
        List<String> programs = java.stream().filter(block -> block.contains(" class ")).collect(Collectors.toList());
        checks.due("programs", programs.size(), 1);
        checks.due("what they print", text.size(), 1);
        checks.due("the program", String.join("", programs), read(TESTS.resolve("Example.java")));
        PrintStream screen = System.out;
        ByteArrayOutputStream printed = new ByteArrayOutputStream();
        System.setOut(new PrintStream(printed, true, StandardCharsets.UTF_8));
        try {
            Example.main(new String[0]);
        } finally {
            System.setOut(screen);
        }
        String lines = printed.toString(StandardCharsets.UTF_8).replace(System.lineSeparator(), "\n");
        checks.due("what the program prints", lines, String.join("", text));
    }

    private static void testsAreNamed(String readme) {
        checks.due("how the tests are run", readme.contains("\n    .ci/run\n") ? 1 : 0, 1);
        Set<String> named = new TreeSet<>();
        Matcher name = Pattern.compile("(?m)^- `(\\w+)`:").matcher(readme);
        while (name.find()) {
            named.add(name.group(1));
        }
        checks.due("the tests", named.toString(), testsThere().toString());
    }

    private static Set<String> testsThere() {
        try (Stream<Path> files = Files.list(TESTS)) {
            return files.map(file -> file.getFileName().toString()).filter(file -> file.endsWith("Test.java"))
                .map(file -> file.replace(".java", "")).collect(Collectors.toCollection(TreeSet::new));
        } catch (IOException e) {
            throw new UncheckedIOException(e);
        }
    }

    private static String read(Path file) {
        try {
            return Files.readString(file);
        } catch (IOException e) {
            throw new UncheckedIOException(e);
        }
    }
}
