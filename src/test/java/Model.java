import java.util.ArrayList;
import java.util.Arrays;
import java.util.Comparator;
import java.util.HashMap;
import java.util.HashSet;
import java.util.List;
import java.util.Map;
import java.util.NoSuchElementException;
import java.util.TreeMap;
import java.util.stream.IntStream;

/**
 * The document once more, written from its words with the Java library and without a thought of speed:
 * only what is typed, the runs and the balloons are held, all else is found anew at each question.
 */
final class Model {
    record Step(char letter, int a, int b) {
    }

    record Content(List<Integer> input, List<Integer> expected) {
    }

    record Result(char ending, int steps, List<Integer> output) {
    }

    record Spot(int team, int problem) {
    }

    static final class Problem {
        int colour;
        int limit;
        final List<Content> tests = new ArrayList<>();
    }

    static final class Run {
        int team;
        int problem;
        int minute;
        boolean isOpened;
        List<Step> program;
        final List<Result> results = new ArrayList<>();
    }

    private final List<Step> typed = new ArrayList<>();
    private final List<Integer> input = new ArrayList<>();
    private final List<Integer> expected = new ArrayList<>();
    private final List<Problem> problems = new ArrayList<>();
    private final List<Run> runs = new ArrayList<>();
    private final Map<Spot, Character> balloons = new HashMap<>();
    private final List<Spot> queue = new ArrayList<>();
    private final int[] stocks = new int[4];
    private int teams = 0;
    private int calledBack = 0;
    private Integer frozen = null;

    private static void argument(boolean isGood) {
        if (!isGood) {
            throw new IllegalArgumentException();
        }
    }

    private static void state(boolean isGood) {
        if (!isGood) {
            throw new IllegalStateException();
        }
    }

    private static void index(boolean isGood) {
        if (!isGood) {
            throw new IndexOutOfBoundsException();
        }
    }

    private static boolean in(int number, int from, int to) {
        return from <= number && number <= to;
    }

    int step(char letter, int a, int b) {
        argument("iosamdjnh".indexOf(letter) >= 0);
        argument(letter == 'h' || in(a, 0, 3));
        argument(letter != 's' || in(b, -999, 999));
        argument("amd".indexOf(letter) < 0 || in(b, 0, 3));
        argument("jn".indexOf(letter) < 0 || in(b, 0, 99));
        state(typed.size() < 20);
        typed.add(new Step(letter, a, b));
        return typed.size();
    }

    int number(int number, boolean isExpected) {
        argument(in(number, -999, 999));
        List<Integer> numbers = isExpected ? expected : input;
        state(numbers.size() < (isExpected ? 6 : 4));
        numbers.add(number);
        return numbers.size();
    }

    int wipe(boolean areSteps) {
        int many = areSteps ? typed.size() : input.size() + expected.size();
        if (areSteps) {
            typed.clear();
        } else {
            input.clear();
            expected.clear();
        }
        return many;
    }

    int problem(int colour, int limit) {
        argument(in(colour, 0, 3) && in(limit, 1, 400));
        state(problems.size() < 5);
        Problem added = new Problem();
        added.colour = colour;
        added.limit = limit;
        problems.add(added);
        return problems.size() - 1;
    }

    int test(int problem) {
        index(in(problem, 0, problems.size() - 1));
        List<Content> tests = problems.get(problem).tests;
        state(tests.size() < 6);
        List<Character> before = verdicts();
        tests.add(new Content(List.copyOf(input), List.copyOf(expected)));
        return judgeAnew(problem, before);
    }

    int fix(int problem, int test) {
        index(in(problem, 0, problems.size() - 1) && in(test, 0, problems.get(problem).tests.size() - 1));
        List<Character> before = verdicts();
        problems.get(problem).tests.set(test, new Content(List.copyOf(input), List.copyOf(expected)));
        return judgeAnew(problem, before);
    }

    int tests(int problem) {
        index(in(problem, 0, problems.size() - 1));
        return problems.get(problem).tests.size();
    }

    int team() {
        state(teams < 8);
        return teams++;
    }

    int submit(int team, int problem, int minute) {
        index(in(team, 0, teams - 1) && in(problem, 0, problems.size() - 1));
        argument(in(minute, 0, 999) && (runs.isEmpty() || runs.get(runs.size() - 1).minute <= minute));
        state(runs.size() < 40);
        Run run = new Run();
        run.team = team;
        run.problem = problem;
        run.minute = minute;
        run.program = List.copyOf(typed);
        runs.add(run);
        judge(run);
        send(new Spot(team, problem));
        return runs.size() - 1;
    }

    char verdict(int run) {
        index(in(run, 0, runs.size() - 1));
        return verdictOf(runs.get(run));
    }

    int failed(int run) {
        index(in(run, 0, runs.size() - 1));
        List<Result> results = runs.get(run).results;
        return IntStream.range(0, results.size()).filter(i -> results.get(i).ending != 'o').findFirst().orElse(-1);
    }

    private Result result(int run, int test) {
        index(in(run, 0, runs.size() - 1) && in(test, 0, runs.get(run).results.size() - 1));
        return runs.get(run).results.get(test);
    }

    char ended(int run, int test) {
        return result(run, test).ending;
    }

    int steps(int run, int test) {
        return result(run, test).steps;
    }

    int outputs(int run, int test) {
        return result(run, test).output.size();
    }

    int output(int run, int test, int index) {
        List<Integer> output = result(run, test).output;
        if (!in(index, 0, output.size() - 1)) {
            throw new NoSuchElementException();
        }
        return output.get(index);
    }

    private List<Result> allResults() {
        List<Result> all = new ArrayList<>();
        for (Run run : runs) {
            all.addAll(run.results);
        }
        return all;
    }

    int kept() {
        HashSet<List<Integer>> different = new HashSet<>();
        for (Result result : allResults()) {
            different.add(result.output);
        }
        return different.size();
    }

    int sharing(int run, int test) {
        List<Integer> output = result(run, test).output;
        return (int) allResults().stream().filter(other -> other.output.equals(output)).count();
    }

    int stock(int colour, int many) {
        argument(in(colour, 0, 3) && in(many, 1, 20));
        stocks[colour] += many;
        serve(colour);
        return stocks[colour];
    }

    int inStock(int colour) {
        argument(in(colour, 0, 3));
        return stocks[colour];
    }

    int out(int colour) {
        argument(in(colour, 0, 3));
        int many = 0;
        for (Map.Entry<Spot, Character> entry : balloons.entrySet()) {
            many += entry.getValue() == 'o' && colourOf(entry.getKey()) == colour ? 1 : 0;
        }
        return many;
    }

    char balloon(int team, int problem) {
        index(in(team, 0, teams - 1) && in(problem, 0, problems.size() - 1));
        return balloons.getOrDefault(new Spot(team, problem), '-');
    }

    int waiting(int colour, int index) {
        argument(in(colour, 0, 3));
        List<Spot> those = queue.stream().filter(spot -> colourOf(spot) == colour).toList();
        if (!in(index, 0, those.size() - 1)) {
            throw new NoSuchElementException();
        }
        return those.get(index).team;
    }

    int calledBack() {
        return calledBack;
    }

    int freeze(int minute) {
        argument(in(minute, 0, 999));
        if (frozen != null) {
            throw new UnsupportedOperationException();
        }
        frozen = minute;
        return (int) runs.stream().filter(this::isPending).count();
    }

    private boolean isPending(Run run) {
        return frozen != null && run.minute >= frozen && !run.isOpened;
    }

    private List<Run> pendingRuns(int team, int problem) {
        return runs.stream().filter(r -> isPending(r) && r.team == team && r.problem == problem).toList();
    }

    int pending(int team, int problem) {
        index(in(team, 0, teams - 1) && in(problem, 0, problems.size() - 1));
        return pendingRuns(team, problem).size();
    }

    int open() {
        List<Integer> order = order(true);
        for (int i = order.size() - 1; i >= 0; i--) {
            for (int problem = 0; problem < problems.size(); problem++) {
                List<Run> opened = pendingRuns(order.get(i), problem);
                if (!opened.isEmpty()) {
                    opened.forEach(run -> run.isOpened = true);
                    return order.get(i);
                }
            }
        }
        throw new NoSuchElementException();
    }

    /** By the problems that a team has solved: the minute of the first accepted run, and the runs ahead of it. */
    private Map<Integer, int[]> firsts(int team, boolean isPublic) {
        Map<Integer, int[]> firsts = new TreeMap<>();
        for (int problem = 0; problem < problems.size(); problem++) {
            int ahead = 0;
            for (Run run : runs) {
                boolean counts = run.team == team && run.problem == problem && !(isPublic && isPending(run));
                if (counts && verdictOf(run) == 'a') {
                    firsts.put(problem, new int[] {run.minute, ahead});
                    break;
                }
                ahead += counts ? 1 : 0;
            }
        }
        return firsts;
    }

    private int penaltyOf(int team, boolean isPublic) {
        return firsts(team, isPublic).values().stream().mapToInt(first -> first[0] + 20 * first[1]).sum();
    }

    private int latestOf(int team, boolean isPublic) {
        return firsts(team, isPublic).values().stream().mapToInt(first -> first[0]).max().orElse(0);
    }

    private List<Integer> order(boolean isPublic) {
        Comparator<Integer> bySolved = Comparator.comparing(team -> -firsts(team, isPublic).size());
        return IntStream.range(0, teams).boxed().sorted(bySolved
                .thenComparing(team -> penaltyOf(team, isPublic))
                .thenComparing(team -> latestOf(team, isPublic))
                .thenComparing(team -> team)).toList();
    }

    int solved(int team, boolean isPublic) {
        index(in(team, 0, teams - 1));
        return firsts(team, isPublic).size();
    }

    int penalty(int team, boolean isPublic) {
        index(in(team, 0, teams - 1));
        return penaltyOf(team, isPublic);
    }

    int rank(int team, boolean isPublic) {
        index(in(team, 0, teams - 1));
        return order(isPublic).indexOf(team) + 1;
    }

    int ranked(int rank, boolean isPublic) {
        if (!in(rank, 1, teams)) {
            throw new NoSuchElementException();
        }
        return order(isPublic).get(rank - 1);
    }

    float acceptedShare() {
        if (runs.isEmpty()) {
            throw new ArithmeticException();
        }
        return (float) runs.stream().filter(run -> verdictOf(run) == 'a').count() / (float) runs.size();
    }

    double meanSteps() {
        if (allResults().isEmpty()) {
            throw new ArithmeticException();
        }
        return (double) allResults().stream().mapToInt(Result::steps).sum() / (double) allResults().size();
    }

    long checksum() {
        long sum = 7;
        for (Result result : allResults()) {
            for (int number : result.output) {
                sum = sum * 31 + number;
            }
            sum = sum * 31 + 1000;
        }
        return sum;
    }

    boolean isTrue() {
        return true;
    }

    private int colourOf(Spot spot) {
        return problems.get(spot.problem).colour;
    }

    private static char verdictOf(Run run) {
        for (Result result : run.results) {
            if (result.ending != 'o') {
                return result.ending;
            }
        }
        return 'a';
    }

    private List<Character> verdicts() {
        return runs.stream().map(Model::verdictOf).toList();
    }

    private boolean hasSolved(Spot spot) {
        return firsts(spot.team, false).containsKey(spot.problem);
    }

    private void judge(Run run) {
        run.results.clear();
        for (Content content : problems.get(run.problem).tests) {
            run.results.add(execute(run.program, content, problems.get(run.problem).limit));
        }
    }

    private int judgeAnew(int problem, List<Character> before) {
        runs.stream().filter(run -> run.problem == problem).forEach(this::judge);
        for (int team = 0; team < teams; team++) {
            Spot spot = new Spot(team, problem);
            if (hasSolved(spot)) {
                continue;
            }
            if (balloons.getOrDefault(spot, '-') == 'o') {
                calledBack++;
                stocks[colourOf(spot)]++;
            }
            balloons.remove(spot);
            queue.remove(spot);
        }
        serve(problems.get(problem).colour);
        for (int team = 0; team < teams; team++) {
            send(new Spot(team, problem));
        }
        List<Character> now = verdicts();
        return (int) IntStream.range(0, now.size()).filter(i -> !now.get(i).equals(before.get(i))).count();
    }

    private void send(Spot spot) {
        if (!hasSolved(spot) || balloons.containsKey(spot)) {
            return;
        }
        if (stocks[colourOf(spot)] > 0) {
            stocks[colourOf(spot)]--;
            balloons.put(spot, 'o');
        } else {
            balloons.put(spot, 'q');
            queue.add(spot);
        }
    }

    private void serve(int colour) {
        for (Spot spot : List.copyOf(queue)) {
            if (colourOf(spot) == colour && stocks[colour] > 0) {
                stocks[colour]--;
                balloons.put(spot, 'o');
                queue.remove(spot);
            }
        }
    }

    private static Result execute(List<Step> program, Content content, int limit) {
        int[] places = new int[4];
        List<Integer> output = new ArrayList<>();
        List<Integer> left = new ArrayList<>(content.input);
        int at = 0;
        int steps = 0;
        while (true) {
            if (at == program.size()) {
                return new Result(output.equals(content.expected) ? 'o' : 'w', steps, output);
            }
            if (steps == limit) {
                return new Result('t', steps, output);
            }
            Step step = program.get(at);
            steps++;
            at++;
            if (step.letter == 'h') {
                return new Result(output.equals(content.expected) ? 'o' : 'w', steps, output);
            }
            int value = places[step.a];
            if (step.letter == 'i') {
                if (left.isEmpty()) {
                    return new Result('r', steps, output);
                }
                places[step.a] = left.remove(0);
            } else if (step.letter == 'o') {
                if (output.size() == 6) {
                    return new Result('l', steps, output);
                }
                output.add(value);
            } else if (step.letter == 's') {
                places[step.a] = step.b;
            } else if (step.letter == 'j' || step.letter == 'n') {
                boolean goes = step.letter == 'j' ? value != 0 : value < 0;
                if (goes && step.b >= program.size()) {
                    return new Result('r', steps, output);
                }
                at = goes ? step.b : at;
            } else {
                int other = places[step.b];
                if (step.letter == 'd' && other == 0) {
                    return new Result('r', steps, output);
                }
                places[step.a] = step.letter == 'a' ? value + other : step.letter == 'm' ? value * other : value / other;
            }
        }
    }

    @Override
    public String toString() {
        return Arrays.toString(stocks) + balloons + queue;
    }
}
