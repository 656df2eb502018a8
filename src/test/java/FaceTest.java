import java.lang.reflect.Constructor;
import java.lang.reflect.Field;
import java.lang.reflect.Method;
import java.lang.reflect.Modifier;
import java.util.ArrayList;
import java.util.Arrays;
import java.util.List;
import java.util.TreeSet;

/** The class shows the document's face, with what each method throws, and nothing else. */
public final class FaceTest {
    private static final String I = "IllegalArgumentException";
    private static final String S = "IllegalStateException";
    private static final String X = "IndexOutOfBoundsException";
    private static final String N = "NoSuchElementException";
    private static final String A = "ArithmeticException";
    private static final String U = "UnsupportedOperationException";
    private static final String[] FACE = {
        "int step(char, int, int) " + I + " " + S, "int number(int, boolean) " + I + " " + S, "int wipe(boolean)",
        "int problem(int, int) " + I + " " + S, "int test(int) " + X + " " + S, "int fix(int, int) " + X,
        "int tests(int) " + X, "int team() " + S, "int submit(int, int, int) " + X + " " + I + " " + S,
        "char verdict(int) " + X, "int failed(int) " + X, "char ended(int, int) " + X, "int steps(int, int) " + X,
        "int outputs(int, int) " + X, "int output(int, int, int) " + X + " " + N, "int kept()",
        "int sharing(int, int) " + X, "int stock(int, int) " + I, "int inStock(int) " + I, "int out(int) " + I,
        "char balloon(int, int) " + X, "int waiting(int, int) " + I + " " + N, "int calledBack()",
        "int freeze(int) " + I + " " + U, "int pending(int, int) " + X, "int open() " + N,
        "int solved(int, boolean) " + X, "int penalty(int, boolean) " + X, "int rank(int, boolean) " + X,
        "int ranked(int, boolean) " + N, "float acceptedShare() " + A, "double meanSteps() " + A,
        "long checksum()", "boolean isTrue()"};
    private static final List<String> wrong = new ArrayList<>();

    public static void main(String[] args) {
        Class<?> kind = Judgefold.class;
        is("the class", Modifier.toString(kind.getModifiers()), "public final");
        is("its package", kind.getPackageName(), "");
        TreeSet<String> face = new TreeSet<>();
        TreeSet<String> publicNames = new TreeSet<>();
        for (Method method : kind.getDeclaredMethods()) {
            if (Modifier.isPublic(method.getModifiers())) {
                face.add(textOf(method));
                publicNames.add(method.getName());
            }
        }
        is("the methods", String.join("\n", face), String.join("\n", new TreeSet<>(Arrays.asList(FACE))));
        for (Method method : kind.getDeclaredMethods()) {
            if (!Modifier.isPublic(method.getModifiers())) {
                is(method + " is private", Modifier.isPrivate(method.getModifiers()), true);
                is(method + " has a name of its own", publicNames.contains(method.getName()), false);
            }
        }
        checkConstructors(kind);
        for (Field field : kind.getDeclaredFields()) {
            is(field + " is private", Modifier.isPrivate(field.getModifiers()), true);
        }
        for (Class<?> inside : kind.getDeclaredClasses()) {
            is(inside + " is static", Modifier.isStatic(inside.getModifiers()), true);
            is(inside + " is not public", Modifier.isPublic(inside.getModifiers()), false);
            checkStatics(inside);
        }
        checkStatics(kind);
        wrong.forEach(System.out::println);
        System.out.println(FACE.length + " methods of the face, " + wrong.size() + " wrong");
        if (!wrong.isEmpty()) {
            System.exit(1);
        }
    }

    private static void checkConstructors(Class<?> kind) {
        Constructor<?>[] all = kind.getDeclaredConstructors();
        is("the constructors", all.length, 1);
        is("the constructor", all[0].toString(), "public Judgefold()");
    }

    private static void checkStatics(Class<?> kind) {
        for (Field field : kind.getDeclaredFields()) {
            if (Modifier.isStatic(field.getModifiers())) {
                is(field + " is final", Modifier.isFinal(field.getModifiers()), true);
            }
        }
    }

    private static String textOf(Method method) {
        StringBuilder text = new StringBuilder(method.getReturnType() + " " + method.getName() + "(");
        for (Class<?> type : method.getParameterTypes()) {
            text.append(text.charAt(text.length() - 1) == '(' ? "" : ", ").append(type);
        }
        text.append(")");
        for (Class<?> type : method.getExceptionTypes()) {
            text.append(" ").append(type.getSimpleName());
        }
        return text.toString();
    }

    private static void is(String what, Object got, Object due) {
        if (!got.equals(due)) {
            wrong.add(what + " is " + got + ", due is " + due);
        }
    }
}
