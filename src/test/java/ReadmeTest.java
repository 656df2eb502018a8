import java.io.IOException;
import java.lang.reflect.Method;
import java.lang.reflect.Modifier;
import java.nio.file.Files;
import java.nio.file.Path;
import java.util.ArrayList;
import java.util.HashMap;
import java.util.List;
import java.util.Map;
import java.util.regex.Matcher;
import java.util.regex.Pattern;
import java.util.stream.Stream;

/** README.md tells of the class and its tests as they are: its example, the calls, the tests and the files. */
public final class ReadmeTest {
    private static final Pattern CALL =
            Pattern.compile("^(?:int (\\w+) = )?contest\\.(\\w+\\(.*\\));\\s*// ([^:]*)(?:: .*)?$");
    private static final Pattern FILE = Pattern.compile("(?:\\.\\./shared|src|\\.ci)/[\\w./*-]+");
    private static final List<String> wrong = new ArrayList<>();
    private static int looked = 0;

    public static void main(String[] args) throws IOException {
        String page = Files.readString(Path.of("README.md"));
        playExample(page.substring(page.indexOf("```java") + 7, page.lastIndexOf("```")).strip().split("\n"));
        for (Method method : Judgefold.class.getDeclaredMethods()) {
            if (Modifier.isPublic(method.getModifiers())) {
                checkNamed(page, method.getName());
            }
        }
        try (Stream<Path> tests = Files.list(Path.of("src/test/java"))) {
            for (Path test : tests.sorted().toList()) {
                checkNamed(page, test.getFileName().toString().replace(".java", ""));
            }
        }
        checkFiles(page);
        wrong.forEach(System.out::println);
        System.out.println(looked + " rows and names of README.md, " + wrong.size() + " wrong");
        if (!wrong.isEmpty()) {
            System.exit(1);
        }
    }

    private static void playExample(String[] rows) {
        is(rows[0], "Judgefold contest = new Judgefold();", "the example's first row");
        Judgefold contest = new Judgefold();
        Map<String, String> held = new HashMap<>();
        for (int i = 1; i < rows.length; i++) {
            Matcher row = CALL.matcher(rows[i]);
            if (!row.matches()) {
                wrong.add("no call with its answer: " + rows[i]);
                continue;
            }
            String call = row.group(2);
            for (Map.Entry<String, String> name : held.entrySet()) {
                call = call.replaceAll("\\b" + name.getKey() + "\\b(?!\\()", name.getValue());
            }
            String answer = Calls.answer(contest, call);
            is(answer, row.group(3).strip(), rows[i]);
            if (row.group(1) != null) {
                held.put(row.group(1), answer);
            }
        }
    }

    private static void checkNamed(String page, String name) {
        is(String.valueOf(page.contains("`" + name + "`")), "true", "that the page names " + name);
    }

    /** Of a name with a star, the folder must be there. */
    private static void checkFiles(String page) {
        Matcher file = FILE.matcher(page);
        while (file.find()) {
            String path = file.group().replaceFirst("/[^/]*\\*.*$", "");
            is(String.valueOf(Files.exists(Path.of(path))), "true", "that there is " + path);
        }
    }

    private static void is(String got, String due, String what) {
        looked++;
        if (!got.equals(due)) {
            wrong.add(what + " is " + got + ", due is " + due);
        }
    }
}
