import java.lang.reflect.InvocationTargetException;
import java.lang.reflect.Method;

/** Makes calls that are given as texts, and writes their answers as the document does. */
final class Calls {
    private Calls() {
    }

    static String answer(Object contest, String call) {
        String text = call.trim();
        int open = text.indexOf('(');
        String inside = text.substring(open + 1, text.lastIndexOf(')')).trim();
        String[] words = inside.isEmpty() ? new String[0] : inside.split(",");
        Method method = methodOf(contest.getClass(), text.substring(0, open));
        Class<?>[] types = method.getParameterTypes();
        if (types.length != words.length) {
            throw new IllegalStateException("wrong number of arguments: " + call);
        }
        Object[] arguments = new Object[words.length];
        for (int i = 0; i < words.length; i++) {
            arguments[i] = argument(words[i].trim(), types[i]);
        }
        try {
            Object result = method.invoke(contest, arguments);
            return result instanceof Character ? "'" + result + "'" : String.valueOf(result);
        } catch (InvocationTargetException thrown) {
            return "throws " + nameOf(thrown.getCause());
        } catch (IllegalAccessException refused) {
            throw new IllegalStateException(refused);
        }
    }

    /** An exception of the machine has another class, or, for a division, a text of its own. */
    private static String nameOf(Throwable thrown) {
        String text = thrown.getMessage() == null ? "" : " (" + thrown.getMessage() + ")";
        return thrown.getClass().getSimpleName() + text;
    }

    private static Method methodOf(Class<?> kind, String name) {
        for (Method method : kind.getDeclaredMethods()) {
            if (method.getName().equals(name)) {
                method.setAccessible(true);
                return method;
            }
        }
        throw new IllegalStateException("no method " + name);
    }

    private static Object argument(String word, Class<?> type) {
        if (type == boolean.class) {
            return Boolean.valueOf(word);
        }
        if (type == char.class) {
            return word.startsWith("'") ? word.charAt(1) : (char) Integer.parseInt(word);
        }
        return Integer.valueOf(word);
    }

    /** All that is told of a contest by questions, and then by calls that use what is typed, the last minute and all. */
    static String allOf(Object contest) {
        StringBuilder all = new StringBuilder();
        addPlain(contest, all);
        for (int i = 0; i < 5; i++) {
            all.append(answer(contest, "tests(" + i + ")")).append(' ');
        }
        addRuns(contest, all);
        addTeams(contest, all);
        for (int colour = 0; colour < 4; colour++) {
            all.append(answer(contest, "inStock(" + colour + ")")).append(answer(contest, "out(" + colour + ")"));
            addUntilThrown(contest, all, "waiting(" + colour + ", ", ")");
        }
        addTyped(contest, all);
        String[] last = {"wipe(false)", "freeze(0)", "team()", "problem(0, 1)"};
        for (String call : last) {
            all.append(answer(contest, call)).append(' ');
        }
        return all.toString();
    }

    private static void addPlain(Object contest, StringBuilder all) {
        String[] plain = {"kept()", "calledBack()", "acceptedShare()", "meanSteps()", "checksum()", "isTrue()"};
        for (String call : plain) {
            all.append(answer(contest, call)).append(' ');
        }
    }

    /** The typed program is submitted at the first minute that is taken; the typed numbers come into a test. */
    private static void addTyped(Object contest, StringBuilder all) {
        int minute = 0;
        String submitted = answer(contest, "submit(0, 0, 0)");
        while (submitted.equals("throws IllegalArgumentException") && minute < 1000) {
            minute++;
            submitted = answer(contest, "submit(0, 0, " + minute + ")");
        }
        all.append(minute).append(' ').append(submitted).append(' ');
        addRuns(contest, all);
        all.append(answer(contest, answer(contest, "tests(0)").equals("6") ? "fix(0, 0)" : "test(0)")).append(' ');
        addRuns(contest, all);
        all.append(answer(contest, "wipe(true)")).append(' ');
        for (int i = 0; i < 4; i++) {
            answer(contest, "step('i', 0, 0)");
            answer(contest, "step('o', 0, 0)");
        }
        all.append(answer(contest, "submit(0, 0, " + minute + ")")).append(' ');
        addRuns(contest, all);
        addPlain(contest, all);
    }

    private static void addRuns(Object contest, StringBuilder all) {
        for (int run = 0; !answer(contest, "verdict(" + run + ")").startsWith("throws"); run++) {
            all.append(answer(contest, "verdict(" + run + ")")).append(answer(contest, "failed(" + run + ")"));
            addUntilThrown(contest, all, "ended(" + run + ", ", ")");
            addUntilThrown(contest, all, "steps(" + run + ", ", ")");
            addUntilThrown(contest, all, "sharing(" + run + ", ", ")");
        }
    }

    private static void addTeams(Object contest, StringBuilder all) {
        for (int team = 0; team < 8; team++) {
            for (String board : new String[] {"true", "false"}) {
                for (String kind : new String[] {"solved", "penalty", "rank"}) {
                    all.append(answer(contest, kind + "(" + team + ", " + board + ")")).append(' ');
                }
            }
            addUntilThrown(contest, all, "balloon(" + team + ", ", ")");
            addUntilThrown(contest, all, "pending(" + team + ", ", ")");
        }
    }

    private static void addUntilThrown(Object contest, StringBuilder all, String head, String tail) {
        for (int i = 0; i < 1000; i++) {
            String answer = answer(contest, head + i + tail);
            all.append(answer).append(' ');
            if (answer.startsWith("throws")) {
                return;
            }
        }
    }
}
