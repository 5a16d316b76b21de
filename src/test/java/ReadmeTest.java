import java.io.IOException;
import java.lang.reflect.Method;
import java.lang.reflect.Modifier;
import java.nio.file.Files;
import java.nio.file.Path;
import java.util.TreeSet;
import java.util.regex.Matcher;
import java.util.regex.Pattern;
import java.util.stream.Stream;

/** What README.md says is so: its calls answer what stands behind them, and it names each call and each test. */
public final class ReadmeTest {
    private static final Pattern CALL = Pattern.compile("plotter\\.(\\w+)\\((.*)\\);\\s*// (\\w+).*");

    public static void main(String[] args) throws IOException, ReflectiveOperationException {
        String readme = Files.readString(Path.of("README.md"));
        example(readme);
        calls(readme);
        tests(readme);
        Check.yes("the page tells of a script that can be run", Files.isExecutable(Path.of(".ci/run")));
        Check.end();
    }

    private static void example(String readme) throws ReflectiveOperationException {
        PlotKernel plotter = new PlotKernel();
        int called = 0;
        for (String line : readme.split("\n")) {
            Matcher call = CALL.matcher(line);
            Check.due("a call is told in the form that this test reads: " + line,
                    line.startsWith("plotter.") ? 1 : 0, call.matches() ? 1 : 0);
            if (call.matches()) {
                Object answer = call.group(2).isEmpty()
                        ? PlotKernel.class.getMethod(call.group(1)).invoke(plotter)
                        : PlotKernel.class.getMethod(call.group(1), int.class).invoke(plotter, number(call.group(2)));
                Check.yes(line + " answers " + answer, answer.toString().equals(call.group(3)));
                called++;
            }
        }
        Check.yes("the page shows calls", called > 0);
    }

    private static int number(String argument) throws ReflectiveOperationException {
        return argument.startsWith("PlotKernel.")
                ? PlotKernel.class.getField(argument.substring("PlotKernel.".length())).getInt(null)
                : Integer.parseInt(argument);
    }

    private static void calls(String readme) {
        for (Method method : PlotKernel.class.getDeclaredMethods()) {
            if (Modifier.isPublic(method.getModifiers())) {
                Check.yes("the page names " + method.getName(), readme.contains("`" + method.getName() + "`"));
            }
        }
    }

    private static void tests(String readme) throws IOException {
        TreeSet<String> named = new TreeSet<>();
        Matcher row = Pattern.compile("(?m)^\\| `(\\w+Test)` \\|").matcher(readme);
        while (row.find()) {
            named.add(row.group(1) + ".java");
        }
        TreeSet<String> there = new TreeSet<>();
        try (Stream<Path> files = Files.list(Path.of("src/test/java"))) {
            files.map(file -> file.getFileName().toString()).filter(name -> name.endsWith("Test.java")).forEach(there::add);
        }
        Check.yes("the tests named " + named + " are those that are there " + there, named.equals(there));
    }
}
