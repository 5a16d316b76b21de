import java.io.IOException;
import java.nio.file.Files;
import java.nio.file.Path;
import java.util.List;
import java.util.regex.Matcher;
import java.util.regex.Pattern;

/** A guard for those rules of ../shared/LANGUAGE.md that a look at the source's text can tell. */
public final class LanguageTest {
    private static final String[] RULED_OUT = {
        "\\bpackage\\b", "->", "::", "\\bfinally\\b", "\\bsynchronized\\b", "\\bassert\\b", "\\btry\\b", "\\bcatch\\b",
        "\\bprotected\\b", "\\bvar\\b", "Exact\\(", "\\bhashCode\\b", "\\btoString\\b", "\\bObject\\b", "\\bSystem\\b",
        "\\bstatic\\s*\\{", "\"\\s*\\+", "\\+\\s*\"", "\\bdouble\\b", "\\bfloat\\b", "\\bThrowable\\b", "\\bRandom\\b",
    };

    public static void main(String[] args) throws IOException {
        List<String> lines = Files.readAllLines(Path.of("src/main/java/PlotKernel.java"));
        StringBuilder code = new StringBuilder();
        for (String line : lines) {
            code.append(line.replaceFirst("//.*|^\\s*/?\\*.*", "")).append('\n');
            Check.yes("a line of plain signs: " + line, line.matches("\\p{ASCII}*"));
        }
        for (String rule : RULED_OUT) {
            Check.no("the source holds " + rule, Pattern.compile(rule).matcher(code).find());
        }
        Matcher imports = Pattern.compile("\\bimport\\s+([\\w.*]+)").matcher(code);
        while (imports.find()) {
            Check.yes("import of " + imports.group(1), imports.group(1).equals("java.util.ArrayList"));
        }
        Matcher thrown = Pattern.compile("\\bthrow\\s+new\\s+(\\w+)").matcher(code);
        while (thrown.find()) {
            Check.yes("throw of " + thrown.group(1), thrown.group(1).matches("IllegalArgumentException|IndexOutOfBoundsException"));
        }
        Check.end();
    }
}
