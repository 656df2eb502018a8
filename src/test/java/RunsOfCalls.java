import java.io.IOException;
import java.nio.file.Files;
import java.nio.file.Path;
import java.util.ArrayList;
import java.util.List;

/**
 * Plays runs of calls that are written down as the document writes its examples.
 * A paragraph is a run on a new object, and a line from # on is a comment; those at its head name it.
 * "call = answer" is due; of "n times call = answer" the last answer is due, and none may throw.
 */
public final class RunsOfCalls {
    private static int asked = 0;
    private static int wrong = 0;
    private static String name = "";

    public static void main(String[] args) throws IOException {
        for (String file : args) {
            for (String paragraph : Files.readString(Path.of(file)).split("\n\\s*\n")) {
                name = file + headOf(paragraph);
                play(callsOf(paragraph));
            }
        }
        System.out.println(asked + " calls, " + wrong + " wrong");
        if (wrong != 0 || asked == 0) {
            System.exit(1);
        }
    }

    private static String headOf(String paragraph) {
        StringBuilder head = new StringBuilder();
        for (String line : paragraph.split("\n")) {
            if (!line.startsWith("#")) {
                break;
            }
            head.append("\n").append(line);
        }
        return head.append("\n").toString();
    }

    private static List<String> callsOf(String paragraph) {
        List<String> calls = new ArrayList<>();
        for (String line : paragraph.split("\n")) {
            for (String call : line.replaceFirst("#.*", "").split(";")) {
                if (!call.isBlank()) {
                    calls.add(call.trim());
                }
            }
        }
        return calls;
    }

    private static void play(List<String> run) {
        Judgefold contest = new Judgefold();
        for (int i = 0; i < run.size(); i++) {
            String due = dueOf(run.get(i));
            int many = timesOf(run.get(i));
            for (int time = 1; time < many; time++) {
                String got = Calls.answer(contest, callOf(run.get(i)));
                check(run.get(i), got.startsWith("throws ") ? got : "no throw", "no throw");
            }
            check(run.get(i), Calls.answer(contest, callOf(run.get(i))), due);
            if (due.startsWith("throws ")) {
                checkNothingChanged(run, i);
            }
        }
    }

    private static int timesOf(String line) {
        String[] parts = line.split(" times ", 2);
        return parts.length < 2 ? 1 : Integer.parseInt(parts[0].trim());
    }

    private static String callOf(String line) {
        String[] parts = line.split(" times ", 2);
        return parts[parts.length - 1].split(" = ", 2)[0];
    }

    private static String dueOf(String line) {
        String[] parts = line.split(" = ", 2);
        return parts.length < 2 ? "(no answer is written down)" : parts[1].trim();
    }

    /** On objects of their own, as looking at all of one takes many calls. */
    private static void checkNothingChanged(List<String> run, int index) {
        Judgefold without = replay(run, index);
        Judgefold with = replay(run, index);
        Calls.answer(with, callOf(run.get(index)));
        check("all behind " + run.get(index), Calls.allOf(with), Calls.allOf(without));
    }

    private static Judgefold replay(List<String> run, int end) {
        Judgefold contest = new Judgefold();
        for (String line : run.subList(0, end)) {
            for (int time = 0; time < timesOf(line); time++) {
                Calls.answer(contest, callOf(line));
            }
        }
        return contest;
    }

    private static void check(String call, String got, String due) {
        asked++;
        if (!got.equals(due)) {
            wrong++;
            System.out.println(name + call + " answered " + got + ", due is " + due);
        }
    }
}
