import java.util.ArrayList;
import java.util.List;

/** Many runs of 512 calls, made by counting alone and so always the same, on the class and on the model. */
public final class ModelTest {
    private static final int RUNS = 3000;
    private static final int CALLS = 512;
    private static long seed;
    private static int minute;

    public static void main(String[] args) {
        int wrong = 0;
        for (int run = 0; run < RUNS && wrong < 5; run++) {
            seed = run * 7919L + 17;
            wrong += play(run) ? 0 : 1;
        }
        System.out.println(RUNS + " runs against the model, " + wrong + " wrong");
        if (wrong != 0) {
            System.exit(1);
        }
    }

    private static boolean play(int run) {
        Judgefold contest = new Judgefold();
        Model model = new Model();
        List<String> calls = new ArrayList<>();
        List<String> planned = new ArrayList<>();
        boolean isWild = run % 4 == 3;
        minute = 0;
        for (int i = 0; i < CALLS; i++) {
            if (planned.isEmpty()) {
                planned.addAll(i < 12 ? List.of(setting(isWild)) : plan(isWild));
            }
            String call = planned.remove(0);
            calls.add(call);
            String due = Calls.answer(model, call);
            String got = Calls.answer(contest, call);
            if (!got.equals(due)) {
                System.out.println("run " + run + ": " + String.join("; ", calls) + " answered " + got + ", due is " + due);
                return false;
            }
        }
        return true;
    }

    private static int below(int bound) {
        seed = seed * 6364136223846793005L + 1442695040888963407L;
        return (int) ((seed >>> 33) % bound);
    }

    private static String setting(boolean isWild) {
        switch (below(isWild ? 3 : 2)) {
            case 0:
                return "team()";
            case 1:
                return "problem(" + below(isWild ? 4 : 2) + ", " + (below(3) == 0 ? 1 + below(400) : 2 + below(20)) + ")";
            default:
                return "stock(" + below(4) + ", " + (1 + below(3)) + ")";
        }
    }

    /** Calls that are to be made behind one another, mostly such as make runs and judge them anew. */
    private static List<String> plan(boolean isWild) {
        switch (below(12)) {
            case 0:
            case 1:
                return program(isWild);
            case 2:
                return content();
            case 3:
            case 4:
            case 5:
                return List.of(change(isWild));
            default:
                return List.of(question());
        }
    }

    private static List<String> program(boolean isWild) {
        List<String> calls = new ArrayList<>();
        calls.add("wipe(true)");
        if (!isWild && below(3) > 0) {
            String[] known = {"step('i', 0, 0)", "step('o', 0, 0)", "step('i', 1, 0)", "step('a', 0, 1)", "step('o', 1, 0)"};
            for (int i = 0; i < 1 + below(4); i++) {
                calls.add(known[below(known.length)]);
            }
        } else {
            int size = below(isWild ? 22 : 8);
            for (int i = 0; i < size; i++) {
                calls.add(step(size, isWild));
            }
        }
        return calls;
    }

    private static String step(int size, boolean isWild) {
        String letters = isWild && below(15) == 0 ? "xz?" : "iiooossaamdjjnnh";
        char letter = letters.charAt(below(letters.length()));
        boolean isOdd = isWild && below(12) == 0;
        int a = isOdd ? below(7) - 2 : below(4);
        int b = letter == 's' ? below(7) - 3 : letter == 'j' || letter == 'n' ? below(size + 2) : below(4);
        return "step('" + letter + "', " + a + ", " + (isOdd ? below(2300) - 1150 : b) + ")";
    }

    private static List<String> content() {
        List<String> calls = new ArrayList<>();
        calls.add("wipe(false)");
        for (int i = 0; i < below(4); i++) {
            calls.add("number(" + (below(3) - 1) + ", " + (below(2) == 0) + ")");
        }
        if (below(30) == 0) {
            calls.add("number(" + (below(2100) - 1050) + ", " + (below(2) == 0) + ")");
        }
        int problem = below(5);
        calls.add(below(2) == 0 ? "test(" + problem + ")" : "fix(" + problem + ", " + below(4) + ")");
        return calls;
    }

    private static String change(boolean isWild) {
        switch (below(isWild ? 14 : 10)) {
            case 0:
                return "stock(" + (isWild ? below(6) - 1 : below(2)) + ", " + (below(30) == 0 ? 20 : 1 + below(2)) + ")";
            case 1:
                return below(6) == 0 ? "freeze(" + (isWild ? below(1100) - 50 : below(30)) + ")" : "open()";
            case 2:
                return below(3) == 0 ? "fix(" + (below(7) - 1) + ", " + (below(8) - 1) + ")" : "fix(" + below(3) + ", 0)";
            case 3:
                return "open()";
            case 10:
                return "team()";
            case 11:
                return "problem(" + (below(6) - 1) + ", " + (below(500) - 40) + ")";
            case 12:
                return "test(" + (below(8) - 1) + ")";
            case 13:
                return "wipe(" + (below(2) == 0) + ")";
            default:
                return submit(isWild);
        }
    }

    private static String submit(boolean isWild) {
        int team = isWild ? below(9) - 1 : below(4);
        int problem = isWild ? below(7) - 1 : below(3);
        minute += below(3) == 0 ? 1 + below(3) : 0;
        int given = below(30) == 0 ? minute - 1 : below(60) == 0 ? 1000 : minute;
        return "submit(" + team + ", " + problem + ", " + given + ")";
    }

    private static String question() {
        int team = below(1 + below(9)) - (below(20) == 0 ? 1 : 0);
        int run = below(1 + below(40)) - (below(20) == 0 ? 1 : 0);
        int test = below(1 + below(6)) - (below(20) == 0 ? 1 : 0);
        boolean isPublic = below(2) == 0;
        switch (below(24)) {
            case 0: return "verdict(" + run + ")";
            case 1: return "failed(" + run + ")";
            case 2: return "ended(" + run + ", " + test + ")";
            case 3: return "steps(" + run + ", " + test + ")";
            case 4: return "outputs(" + run + ", " + test + ")";
            case 5: return "output(" + run + ", " + test + ", " + (below(7) - 1) + ")";
            case 6: return "kept()";
            case 7: return "sharing(" + run + ", " + test + ")";
            case 8: return "inStock(" + (below(6) - 1) + ")";
            case 9: return "out(" + (below(6) - 1) + ")";
            case 10: return "balloon(" + team + ", " + test + ")";
            case 11: return "waiting(" + (below(6) - 1) + ", " + (below(6) - 1) + ")";
            case 12: return "calledBack()";
            case 13: return "pending(" + team + ", " + test + ")";
            case 14: return "solved(" + team + ", " + isPublic + ")";
            case 15: return "penalty(" + team + ", " + isPublic + ")";
            case 16: return "rank(" + team + ", " + isPublic + ")";
            case 17: return "ranked(" + team + ", " + isPublic + ")";
            case 18: return "acceptedShare()";
            case 19: return "meanSteps()";
            case 20: return "checksum()";
            case 21: return "isTrue()";
            case 22: return "tests(" + (below(7) - 1) + ")";
            default: return "waiting(" + below(2) + ", " + below(3) + ")";
        }
    }
}
