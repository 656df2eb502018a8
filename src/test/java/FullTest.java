import java.util.ArrayList;
import java.util.List;

/** Contests that are full: all teams, problems, tests and runs, all outputs others, all spots in one queue. */
public final class FullTest {
    private static final int CALLS = 512;
    private static int asked = 0;
    private static int wrong = 0;

    public static void main(String[] args) {
        play("all outputs others", outputs());
        play("one queue of all", queue());
        play("all pending", pending());
        System.out.println(asked + " calls against the model, " + wrong + " wrong");
        if (wrong != 0) {
            System.exit(1);
        }
    }

    private static void play(String name, List<String> calls) {
        Judgefold contest = new Judgefold();
        Model model = new Model();
        if (calls.size() > CALLS) {
            wrong++;
            System.out.println(name + " has " + calls.size() + " calls");
        }
        for (String call : calls) {
            String due = Calls.answer(model, call);
            String got = Calls.answer(contest, call);
            asked++;
            if (!got.equals(due)) {
                wrong++;
                System.out.println(name + ": " + call + " answered " + got + ", due is " + due);
            }
        }
    }

    private static void addTeamsAndProblems(List<String> calls, int limit) {
        for (int i = 0; i < 9; i++) {
            calls.add("team()");
        }
        for (int i = 0; i < 6; i++) {
            calls.add("problem(1, " + limit + ")");
        }
    }

    // Promise 17: "Returns how many."
    // All 240 that there can be.
    private static List<String> outputs() {
        List<String> calls = new ArrayList<>();
        addTeamsAndProblems(calls, 400);
        for (int test = 0; test < 7; test++) {
            calls.add("number(" + test + ", false)");
            calls.add("test(0)");
            calls.add("wipe(false)");
        }
        calls.add("step('i', 0, 0)");
        for (int i = 0; i < 5; i++) {
            calls.add("step('o', 0, 0)");
        }
        calls.add("step('a', 1, 0)");
        for (int run = 0; run < 40; run++) {
            calls.add("wipe(true)");
            calls.add("step('i', 0, 0)");
            calls.add("step('s', 1, " + run + ")");
            calls.add("step('o', 0, 0)");
            calls.add("step('o', 1, 0)");
            calls.add("submit(" + run % 8 + ", 0, " + run + ")");
        }
        calls.addAll(List.of("kept()", "isTrue()", "checksum()", "meanSteps()", "acceptedShare()"));
        for (int run = 0; run < 40; run += 3) {
            calls.add("output(" + run + ", 5, 1)");
            calls.add("sharing(" + run + ", " + run % 6 + ")");
        }
        for (int test = 5; test >= 0; test--) {
            calls.addAll(List.of("number(" + -test + ", false)", "fix(0, " + test + ")", "wipe(false)"));
            calls.addAll(List.of("kept()", "checksum()", "sharing(39, 0)", "output(7, 3, 0)", "output(39, 5, 1)"));
        }
        calls.addAll(List.of("isTrue()", "meanSteps()", "submit(0, 0, 40)", "fix(0, 5)", "kept()", "isTrue()"));
        return calls;
    }

    private static List<String> queue() {
        List<String> calls = new ArrayList<>();
        addTeamsAndProblems(calls, 9);
        for (int run = 0; run < 40; run++) {
            calls.add("submit(" + run * 3 % 8 + ", " + run % 5 + ", 7)");
        }
        addQueue(calls);
        calls.addAll(List.of("stock(1, 3)", "waiting(1, 36)", "waiting(1, 37)", "number(1, true)", "test(4)"));
        addQueue(calls);
        calls.addAll(List.of("calledBack()", "inStock(1)", "out(1)", "wipe(false)", "fix(4, 0)"));
        addQueue(calls);
        calls.addAll(List.of("isTrue()", "stock(1, 20)", "out(1)", "stock(1, 20)", "inStock(1)", "out(1)", "waiting(1, 0)"));
        calls.addAll(List.of("number(1, true)", "test(0)", "test(2)", "calledBack()", "inStock(1)", "isTrue()"));
        for (int team = -1; team < 9; team++) {
            for (int problem = -1; problem < 6; problem++) {
                calls.add("balloon(" + team + ", " + problem + ")");
            }
        }
        return calls;
    }

    private static void addQueue(List<String> calls) {
        for (int i = -1; i <= 40; i++) {
            calls.add("waiting(1, " + i + ")");
        }
    }

    private static List<String> pending() {
        List<String> calls = new ArrayList<>();
        addTeamsAndProblems(calls, 9);
        calls.addAll(List.of("freeze(100)", "open()"));
        for (int run = 0; run < 40; run++) {
            if (run % 7 == 3) {
                calls.add("step('o', 0, 0)");
                calls.add("step('h', 0, 0)");
            }
            calls.add("submit(" + run * 5 % 8 + ", " + run * 2 % 5 + ", " + (90 + run) + ")");
        }
        calls.addAll(List.of("test(0)", "test(3)", "acceptedShare()", "meanSteps()", "isTrue()"));
        for (int i = 0; i < 42; i++) {
            calls.add("open()");
            calls.add("ranked(" + i % 9 + ", true)");
            calls.add("rank(" + i % 9 + ", " + (i % 2 == 0) + ")");
            calls.add("pending(" + i % 8 + ", " + i % 5 + ")");
            calls.add("penalty(" + i % 8 + ", true)");
        }
        calls.addAll(List.of("number(0, true)", "fix(0, 0)", "isTrue()", "submit(7, 4, 200)", "open()"));
        for (int team = 0; team < 9; team++) {
            for (String board : new String[] {"true", "false"}) {
                calls.add("solved(" + team + ", " + board + ")");
                calls.add("penalty(" + team + ", " + board + ")");
                calls.add("rank(" + team + ", " + board + ")");
                calls.add("ranked(" + (team + 1) + ", " + board + ")");
            }
        }
        return calls;
    }
}
