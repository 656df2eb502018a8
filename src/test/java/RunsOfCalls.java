import java.io.IOException;
import java.nio.file.Files;
import java.nio.file.Path;
import java.util.ArrayList;
import java.util.List;

/**
 * Plays runs of calls that are written down as the document writes its examples.
 * A paragraph is a run on a new object; "call = answer" is due, "n times call" only must not throw;
 * a line from # on is a comment.
 */
public final class RunsOfCalls {
    private static int asked = 0;
    private static int wrong = 0;

    public static void main(String[] args) throws IOException {
        for (String file : args) {
            List<String> run = new ArrayList<>();
            for (String line : Files.readAllLines(Path.of(file))) {
                String text = line.replaceFirst("#.*", "").trim();
                if (line.isBlank()) {
                    play(file, run);
                    run.clear();
                }
                for (String call : text.split(";")) {
                    if (!call.isBlank()) {
                        run.add(call.trim());
                    }
                }
            }
            play(file, run);
        }
        System.out.println(asked + " calls, " + wrong + " wrong");
        if (wrong != 0 || asked == 0) {
            System.exit(1);
        }
    }

    private static void play(String file, List<String> run) {
        Judgefold contest = new Judgefold();
        for (int i = 0; i < run.size(); i++) {
            String line = run.get(i);
            if (line.contains(" times ")) {
                repeat(file, contest, line);
                continue;
            }
            String[] parts = line.split(" = ", 2);
            String want = parts.length < 2 ? "(no answer is written down)" : parts[1].trim();
            check(file, line, Calls.answer(contest, parts[0]), want);
            if (want.startsWith("throws ")) {
                checkNothingChanged(file, run, i);
            }
        }
    }

    private static void repeat(String file, Judgefold contest, String line) {
        String[] parts = line.split(" times ", 2);
        for (int i = 0; i < Integer.parseInt(parts[0].trim()); i++) {
            String got = Calls.answer(contest, parts[1]);
            check(file, line, got.startsWith("throws ") ? got : "no throw", "no throw");
        }
    }

    /** On objects of their own, as looking at all of one takes many calls. */
    private static void checkNothingChanged(String file, List<String> run, int index) {
        Judgefold without = replay(run, index);
        Judgefold with = replay(run, index);
        Calls.answer(with, run.get(index).split(" = ", 2)[0]);
        check(file, "all behind " + run.get(index), Calls.allOf(with), Calls.allOf(without));
    }

    private static Judgefold replay(List<String> run, int end) {
        Judgefold contest = new Judgefold();
        for (String line : run.subList(0, end)) {
            String[] parts = line.split(" times ", 2);
            int many = parts.length < 2 ? 1 : Integer.parseInt(parts[0].trim());
            for (int i = 0; i < many; i++) {
                Calls.answer(contest, parts[parts.length - 1].split(" = ", 2)[0]);
            }
        }
        return contest;
    }

    private static void check(String file, String call, String got, String want) {
        asked++;
        if (!got.equals(want)) {
            wrong++;
            System.out.println(file + ": " + call + " answered " + got + ", due is " + want);
        }
    }
}
