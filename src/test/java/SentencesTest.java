import java.io.IOException;
import java.nio.file.Files;
import java.nio.file.Path;
import java.util.ArrayList;
import java.util.LinkedHashSet;
import java.util.List;
import java.util.Set;
import java.util.regex.Matcher;
import java.util.regex.Pattern;
import java.util.stream.Stream;

/**
 * Each sentence of the document that names a boundary case has a test that says so by a row that quotes it:
 * all of the terms, what a promise returns and throws, and what it takes if a range is told.
 */
public final class SentencesTest {
    private static final Path DOCUMENT = Path.of("../shared/DOC.md");
    private static final Pattern QUOTE = Pattern.compile("^\\s*(?:#|//) ((?:What it is|Terms|Promise \\d+): \".*\")$");
    private static final List<String> wrong = new ArrayList<>();

    public static void main(String[] args) throws IOException {
        Set<String> quoted = new LinkedHashSet<>();
        for (Path file : testFiles()) {
            for (String line : Files.readAllLines(file)) {
                Matcher quote = QUOTE.matcher(line);
                if (quote.find()) {
                    quoted.add(quote.group(1));
                }
            }
            if (file.startsWith("src/test/sentences")) {
                checkEachIsNamed(file);
            }
        }
        if (Files.exists(DOCUMENT)) {
            checkAgainst(Files.readAllLines(DOCUMENT), quoted);
        }
        wrong.forEach(System.out::println);
        System.out.println(quoted.size() + " sentences of the document have tests, " + wrong.size() + " wrong");
        if (!wrong.isEmpty() || quoted.isEmpty()) {
            System.exit(1);
        }
    }

    private static List<Path> testFiles() throws IOException {
        try (Stream<Path> found = Files.walk(Path.of("src/test"))) {
            return found.filter(Files::isRegularFile).sorted().toList();
        }
    }

    private static void checkEachIsNamed(Path file) throws IOException {
        for (String paragraph : Files.readString(file).split("\n\\s*\n")) {
            String head = paragraph.strip().split("\n")[0];
            if (!QUOTE.matcher(head).find()) {
                wrong.add(file + ": a test without its sentence, " + head);
            }
        }
    }

    private static void checkAgainst(List<String> document, Set<String> quoted) {
        Set<String> all = new LinkedHashSet<>();
        Set<String> bounds = new LinkedHashSet<>();
        String section = "";
        for (String line : document) {
            if (line.startsWith("## ")) {
                section = line.substring(3).replaceFirst("^(Promise \\d+):.*", "$1");
            }
            for (String sentence : sentencesOf(line)) {
                String quote = section + ": \"" + sentence + "\"";
                all.add(quote);
                if (namesABoundary(section, sentence, line)) {
                    bounds.add(quote);
                }
            }
        }
        for (String quote : quoted) {
            if (!all.contains(quote)) {
                wrong.add("not in the document: " + quote);
            }
        }
        for (String quote : bounds) {
            if (!quoted.contains(quote)) {
                wrong.add("without a test: " + quote);
            }
        }
    }

    private static List<String> sentencesOf(String line) {
        String text = line.replaceFirst("^- ", "").replaceFirst("^`[^`]*\\)[^`]*`: ", "");
        return List.of(text.strip().split("(?<=[.]) (?=[A-Z])"));
    }

    private static boolean namesABoundary(String section, String sentence, String line) {
        boolean isHeading = !sentence.contains(" ") || line.startsWith("#");
        boolean isExample = line.startsWith("Examples:") || line.startsWith("- ") && !line.startsWith("- `");
        if (isHeading || isExample) {
            return false;
        }
        if (section.startsWith("Promise")) {
            boolean isRange = line.startsWith("- `") && sentence.matches(".*\\d.*");
            return isRange || line.startsWith("Returns ") || line.startsWith("Throws ");
        }
        return section.equals("Terms") || section.equals("What it is") && sentence.matches(".*\\d.*");
    }
}
