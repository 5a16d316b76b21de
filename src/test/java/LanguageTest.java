import java.io.IOException;
import java.lang.reflect.Executable;
import java.lang.reflect.Field;
import java.lang.reflect.Modifier;
import java.nio.file.Files;
import java.nio.file.Path;
import java.util.ArrayList;
import java.util.Arrays;
import java.util.List;
import java.util.Set;
import java.util.regex.Matcher;
import java.util.regex.Pattern;

/** A guard for those rules of ../shared/LANGUAGE.md that the source's text and the compiled class can tell. */
public final class LanguageTest {
    private static final String[] RULED_OUT = {
        "\\bpackage\\b", "->", "::", "\\bfinally\\b", "\\bsynchronized\\b", "\\bassert\\b", "\\btry\\b", "\\bcatch\\b",
        "\\bprotected\\b", "\\bvar\\b", "Exact\\(", "\\bhashCode\\b", "\\btoString\\b", "\\bObject\\b", "\\bSystem\\b",
        "\\bstatic\\s*\\{", "\"\\s*\\+", "\\+\\s*\"", "\\bdouble\\b", "\\bfloat\\b", "\\bThrowable\\b", "\\bRandom\\b",
    };
    /** What the class uses of the library, each of it allowed by rule 4 or 6. */
    private static final Set<String> LIBRARY = Set.of(
            "java/lang/Object.<init>", "java/lang/Math.abs", "java/lang/Math.max", "java/util/ArrayList.<init>",
            "java/util/ArrayList.add", "java/util/ArrayList.get", "java/util/ArrayList.remove", "java/util/ArrayList.size",
            "java/util/ArrayList.isEmpty", "java/lang/IllegalArgumentException.<init>",
            "java/lang/IndexOutOfBoundsException.<init>");
    private static final int MOST_CLASSES = 12;
    private static final int MOST_FIELDS = 20;
    private static final int MOST_PARAMETERS = 7;
    private static final int MOST_LINES = 60;

    public static void main(String[] args) throws IOException {
        text();
        library();
        sizes();
        Check.end();
    }

    private static void text() throws IOException {
        List<String> lines = Files.readAllLines(Path.of("src/main/java/PlotKernel.java"));
        StringBuilder code = new StringBuilder();
        for (String line : lines) {
            code.append(line.replaceFirst("//.*|^\\s*/?\\*.*", "")).append('\n');
            Check.yes("a line of plain signs: " + line, line.matches("\\p{ASCII}*"));
        }
        for (String rule : RULED_OUT) {
            Check.no("the source holds " + rule, Pattern.compile(rule).matcher(code).find());
        }
        Matcher imports = Pattern.compile("\\bimport\\s+([\\w.*]+)").matcher(code);
        while (imports.find()) {
            Check.yes("import of " + imports.group(1), imports.group(1).equals("java.util.ArrayList"));
        }
        Matcher thrown = Pattern.compile("\\bthrow\\s+new\\s+(\\w+)").matcher(code);
        while (thrown.find()) {
            Check.yes("throw of " + thrown.group(1), thrown.group(1).matches("IllegalArgumentException|IndexOutOfBoundsException"));
        }
        Matcher body = Pattern.compile("(?ms)^( {4}| {8})\\w[^\\n;=]*\\) [^\\n;=]*\\{$.*?^\\1\\}$").matcher(code);
        while (body.find()) {
            long length = body.group().lines().count();
            Check.yes(body.group().lines().findFirst().get() + " has " + length + " lines", length <= MOST_LINES);
        }
    }

    private static List<Class<?>> classes() {
        List<Class<?>> classes = new ArrayList<>(Arrays.asList(PlotKernel.class.getDeclaredClasses()));
        classes.add(PlotKernel.class);
        return classes;
    }

    private static void library() throws IOException {
        for (Class<?> one : classes()) {
            List<String> used = Compiled.namedBy(one);
            Check.yes(one + " uses something", !used.isEmpty());
            for (String name : used) {
                Check.yes(one + " may use " + name, name.startsWith("PlotKernel") || LIBRARY.contains(name));
            }
        }
    }

    private static void sizes() {
        Check.yes("the classes are few", classes().size() <= MOST_CLASSES);
        for (Class<?> one : classes()) {
            long fields = Arrays.stream(one.getDeclaredFields()).filter(LanguageTest::isKept).count();
            Check.yes(one + " has " + fields + " fields", fields <= MOST_FIELDS);
            List<Executable> methods = new ArrayList<>(Arrays.asList(one.getDeclaredMethods()));
            methods.addAll(Arrays.asList(one.getDeclaredConstructors()));
            for (Executable method : methods) {
                Check.yes(method + " has few parameters", method.getParameterCount() <= MOST_PARAMETERS);
            }
        }
    }

    private static boolean isKept(Field field) {
        return !Modifier.isStatic(field.getModifiers());
    }
}
