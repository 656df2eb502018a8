import java.io.IOException;
import java.nio.file.Files;
import java.nio.file.Path;
import java.util.ArrayList;
import java.util.List;
import java.util.regex.Matcher;
import java.util.regex.Pattern;

/** Those rules of LANGUAGE.md that the text of the class shows. */
public final class LanguageTest {
    private static final String[][] FORBIDDEN = {
        {"a lambda or an arrow", "->"}, {"a method reference", "::"}, {"a package line", "(?m)^package\\b"},
        {"another import", "(?m)^import (?!java\\.util\\.(NoSuchElementException|ArrayList|List|Iterator|Arrays);)"},
        {"a word of rule 6", "\\b(try|catch|finally|synchronized|assert|instanceof)\\b"},
        {"a class of the machine's exceptions",
            "\\b(ArrayIndexOutOf\\w+|NullPointer\\w+|ClassCast\\w+|NegativeArray\\w+|ArrayStore\\w+|Throwable|Error)\\b"},
        {"a static block", "static\\s*\\{"}, {"var", "\\bvar\\b"},
        {"a library call", "\\b(Random|Thread|System\\.(?!arraycopy)|Stream|Map|Set|Optional|String\\.format)\\b"},
        {"an array of three dimensions", "\\[\\]\\s*\\[\\]\\s*\\[\\]"},
        {"a throw with what is not written", "throw new \\w+\\([^)\"]"},
        {"a loop without a bound", "while\\s*\\(true\\)|for\\s*\\(;;"},
        {"a sign beyond 127", "[^\\x00-\\x7f]"}};

    public static void main(String[] args) throws IOException {
        List<String> wrong = new ArrayList<>();
        String source = Files.readString(Path.of("src/main/java/Judgefold.java"));
        String code = source.replaceAll("(?s)/\\*.*?\\*/", "").replaceAll("//[^\n]*", "");
        for (String[] rule : FORBIDDEN) {
            Matcher found = Pattern.compile(rule[1]).matcher(rule[0].startsWith("a sign") ? source : code);
            if (found.find()) {
                wrong.add(rule[0] + ": " + found.group());
            }
        }
        if (Pattern.compile("\\bclass \\w+").matcher(code).results().count() > 12) {
            wrong.add("more than twelve classes");
        }
        checkMethods(code.split("\n"), wrong);
        wrong.forEach(System.out::println);
        System.out.println(FORBIDDEN.length + 3 + " rules of the language, " + wrong.size() + " broken");
        if (!wrong.isEmpty()) {
            System.exit(1);
        }
    }

    private static void checkMethods(String[] lines, List<String> wrong) {
        Pattern head = Pattern.compile("^( {4}| {8})(?! )[\\w\\[\\] ]+\\(([^)]*)\\)[^;{]*\\{$");
        for (int i = 0; i < lines.length; i++) {
            Matcher method = head.matcher(lines[i]);
            if (!method.find() || lines[i].trim().matches("(if|for|while|switch|\\}).*")) {
                continue;
            }
            int end = i;
            while (end < lines.length && !lines[end].equals(method.group(1) + "}")) {
                end++;
            }
            if (end - i > 60) {
                wrong.add("more than sixty lines: " + lines[i].trim());
            }
            if (method.group(2).split(",").length > 7) {
                wrong.add("more than seven parameters: " + lines[i].trim());
            }
        }
    }
}
