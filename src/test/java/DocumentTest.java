import java.io.IOException;
import java.nio.file.Files;
import java.nio.file.Path;
import java.util.ArrayList;
import java.util.List;
import java.util.regex.Matcher;
import java.util.regex.Pattern;
import java.util.stream.Stream;

/** Each sentence of the document is named by a test, and what tests name stands in the document. */
public final class DocumentTest {
    private static final Pattern NAMED = Pattern.compile("Check\\.promise\\(([^,\"]+), ((?:\"[^\"]*\"(?:\\s*\\+\\s*)?)+)\\)");
    /** What heads a list, or is looked at by FaceTest. */
    private static final String NOT_A_PROMISE = "Ticks\\.|Bytes\\.|The journal\\.|Ahead of the calls .*|The constants: .*"
            + "|Commands\\.|`.*`:|- `\\w+`: [\\w ]*";

    private record Words(int promise, String text) {
    }

    public static void main(String[] args) throws IOException {
        String document = Files.readString(Path.of("../shared/DOC.md"));
        List<Words> named = named();
        for (Words words : named) {
            Check.yes("promise " + words.promise + " or the terms hold \"" + words.text + "\"",
                    section(document, "Promise " + words.promise + ":").contains(words.text)
                            || section(document, "Terms").contains(words.text));
        }
        for (String sentence : sentences(section(document, "Terms"))) {
            Check.yes("a test names \"" + sentence + "\"", isNamed(sentence, 0, named));
        }
        for (int promise = 1; promise <= 20; promise++) {
            for (String sentence : sentences(section(document, "Promise " + promise + ":"))) {
                Check.yes("a test of promise " + promise + " names \"" + sentence + "\"", isNamed(sentence, promise, named));
            }
        }
        Check.end();
    }

    private static List<Words> named() throws IOException {
        List<Words> named = new ArrayList<>();
        try (Stream<Path> files = Files.list(Path.of("src/test/java"))) {
            for (Path file : files.sorted().toList()) {
                Matcher call = NAMED.matcher(Files.readString(file));
                while (call.find()) {
                    String text = call.group(2).replaceAll("\"\\s*\\+\\s*\"", "");
                    // A test of several promises at once reckons the number, and names the terms.
                    int promise = call.group(1).matches("\\d+") ? Integer.parseInt(call.group(1)) : 0;
                    named.add(new Words(promise, text.substring(1, text.length() - 1)));
                }
            }
        }
        return named;
    }

    /** The lines below the heading that begins so, with all white space made one blank. */
    private static String section(String document, String heading) {
        for (String part : document.split("(?m)^## ")) {
            if (part.startsWith(heading)) {
                return part.substring(part.indexOf('\n') + 1);
            }
        }
        return "";
    }

    private static List<String> sentences(String section) {
        List<String> sentences = new ArrayList<>();
        for (String line : section.split("\n")) {
            for (String sentence : line.split("(?<=[.:]) (?=[A-Z])")) {
                if (!sentence.isBlank() && !sentence.matches(NOT_A_PROMISE)) {
                    sentences.add(sentence.replaceFirst("^- `\\w+`: |^- ", "").trim());
                }
            }
        }
        return sentences;
    }

    /** Whether a test names the sentence or a part of it; promise 0 stands for any. */
    private static boolean isNamed(String sentence, int promise, List<Words> named) {
        for (Words words : named) {
            if ((promise == 0 || promise == words.promise)
                    && (sentence.contains(words.text) || words.text.contains(sentence))) {
                return true;
            }
        }
        return false;
    }
}
