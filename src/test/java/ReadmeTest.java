import java.lang.reflect.Method;
import java.nio.file.Files;
import java.nio.file.Path;
import java.util.List;
import java.util.regex.Matcher;
import java.util.regex.Pattern;
import java.util.stream.Collectors;
import java.util.stream.Stream;

/** The examples of README.md, each line with the answer that stands behind it, and that it leaves out no call and no test. */
public final class ReadmeTest {
    private static final Due D = new Due("ReadmeTest");
    private static final Pattern CALL = Pattern.compile("crib\\.(\\w+)\\((.*)\\); *// (-?\\d+)(: .*)?");

    private static ToolCrib crib;

    public static void main(String[] args) throws Exception {
        List<String> lines = Files.readAllLines(Path.of("README.md"));
        boolean example = false;
        int calls = 0;
        for (String line : lines) {
            if (line.startsWith("```")) {
                example = line.equals("```java");
                crib = null;
            } else if (example) {
                calls += run(line);
            }
        }
        D.is("README.md has examples", calls > 0 ? 1 : 0, 1);
        allNamed(String.join("\n", lines));
        D.end();
    }

    /** Runs a line of an example; how many calls it held. */
    private static int run(String line) throws Exception {
        if (line.equals("ToolCrib crib = new ToolCrib();")) {
            crib = new ToolCrib();
            return 0;
        }
        Matcher m = CALL.matcher(line);
        boolean runs = m.matches() && crib != null;
        D.is("a line that runs: " + line, runs ? 1 : 0, 1);
        if (runs) {
            D.is("README.md: " + line, answer(m.group(1), m.group(2)), Long.parseLong(m.group(3)));
        }
        return 1;
    }

    private static long answer(String name, String told) throws Exception {
        String[] numbers = told.isEmpty() ? new String[0] : told.split(", ");
        Object[] args = new Object[numbers.length];
        Method call = methodOf(name);
        for (int i = 0; i < args.length; i++) {
            long number = Long.decode(numbers[i].replace("L", ""));
            if (call.getParameterTypes()[i] == long.class) {
                args[i] = number;
            } else {
                args[i] = Math.toIntExact(number);
            }
        }
        return ((Number) call.invoke(crib, args)).longValue();
    }

    private static Method methodOf(String name) {
        for (Method m : ToolCrib.class.getMethods()) {
            if (m.getName().equals(name)) {
                return m;
            }
        }
        throw new IllegalStateException("README.md calls what is not in the face: " + name);
    }

    private static void allNamed(String text) throws Exception {
        for (Method m : ToolCrib.class.getDeclaredMethods()) {
            if ((m.getModifiers() & java.lang.reflect.Modifier.PUBLIC) != 0) {
                D.is("README.md has no example of " + m.getName(), text.contains("crib." + m.getName() + "(") ? 1 : 0, 1);
            }
        }
        try (Stream<Path> files = Files.list(Path.of("src/test/java"))) {
            List<String> names = files.map(f -> f.getFileName().toString().replace(".java", "")).collect(Collectors.toList());
            for (String name : names) {
                D.is("README.md does not name " + name, text.contains(name) ? 1 : 0, 1);
            }
        }
    }
}
