import java.lang.reflect.Field;
import java.util.ArrayList;
import java.util.List;

/** isTrue sees each kind of damage that promise 35 names; from outside none can be done, so it is done to the fields. */
// Promise 35: "Returns whether all of it holds."
public final class DamageTest {
    private static final List<String> wrong = new ArrayList<>();
    private static int asked = 0;

    interface Damage {
        void to(Object contest) throws ReflectiveOperationException;
    }

    public static void main(String[] args) {
        check("no damage", true, contest -> { });
        check("a balloon that is out without a solved problem", false, contest -> states(contest)[1] = 'o');
        check("a team that waits without a solved problem", false, contest -> states(contest)[5] = 'q');
        check("a solved problem without a balloon", false, contest -> states(contest)[0] = '-');
        check("stock as a team waits", false, contest -> ints(contest, "balloons", "stocks")[0] = 1);
        check("stock of a colour for which nobody waits", true, contest -> ints(contest, "balloons", "stocks")[1] = 1);
        check("another number of an output", false, contest -> ints(contest, "store", "numbers")[0]++);
        check("another size of an output", false, contest -> ints(contest, "store", "sizes")[0]++);
        check("another order on the true board", false, contest -> swapFirst(ints(contest, "trueBoard", "order")));
        check("another order on the public board", false, contest -> swapFirst(ints(contest, "publicBoard", "order")));
        check("another penalty on the true board", false, contest -> ints(contest, "trueBoard", "penalties")[0]++);
        check("another count on the public board", false, contest -> ints(contest, "publicBoard", "solvedCounts")[1]++);
        wrong.forEach(System.out::println);
        System.out.println(asked + " kinds of damage, " + wrong.size() + " wrong");
        if (!wrong.isEmpty()) {
            System.exit(1);
        }
    }

    private static void check(String name, boolean due, Damage damage) {
        Judgefold contest = new Judgefold();
        String[] calls = {"team()", "team()", "problem(0, 9)", "problem(1, 9)", "step('s', 0, 4)", "step('o', 0, 0)",
            "number(4, true)", "test(0)", "submit(0, 0, 3)"};
        for (String call : calls) {
            Calls.answer(contest, call);
        }
        try {
            damage.to(contest);
        } catch (ReflectiveOperationException missing) {
            wrong.add(name + ": " + missing);
        }
        asked++;
        if (contest.isTrue() != due) {
            wrong.add(name + ": isTrue() answered " + !due + ", due is " + due);
        }
    }

    private static void swapFirst(int[] order) {
        int first = order[0];
        order[0] = order[1];
        order[1] = first;
    }

    private static Object held(Object holder, String name) throws ReflectiveOperationException {
        Field field = holder.getClass().getDeclaredField(name);
        field.setAccessible(true);
        return field.get(holder);
    }

    private static char[] states(Object contest) throws ReflectiveOperationException {
        return (char[]) held(held(contest, "balloons"), "states");
    }

    private static int[] ints(Object contest, String part, String name) throws ReflectiveOperationException {
        return (int[]) held(held(contest, part), name);
    }
}
