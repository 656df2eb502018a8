import java.util.NoSuchElementException;

/** A programming contest whose balloons, boards and kept outputs follow from its runs; README.md tells its use. */
public final class Judgefold {
    private static final int PLACES = 4;
    private static final int COLOURS = 4;
    private static final int MAX_STEPS = 20;
    private static final int MAX_INPUT = 4;
    private static final int MAX_OUTPUT = 6;
    private static final int MAX_NUMBER = 999;
    private static final int MAX_GOAL = 99;
    private static final int MAX_MINUTE = 999;
    private static final int MAX_LIMIT = 400;
    private static final int MAX_PROBLEMS = 5;
    private static final int MAX_TESTS = 6;
    private static final int MAX_TEAMS = 8;
    private static final int MAX_RUNS = 40;
    private static final int MAX_DELIVERY = 20;
    private static final int MINUTES_A_FAILURE = 20;

    // Each pair of a team and a problem has a spot of its own in rows of this length.
    private static final int SPOTS = MAX_TEAMS * MAX_PROBLEMS;
    private static final int SLOTS = MAX_RUNS * MAX_TESTS;
    private static final int NONE = -1;
    // No run is at this minute, so that without a freeze each run is ahead of it.
    private static final int NO_FREEZE = MAX_MINUTE + 1;

    private static final char GOES_ON = '-';
    private static final char AS_EXPECTED = 'o';
    private static final char WRONG = 'w';
    private static final char ERROR = 'r';
    private static final char TOO_MUCH = 'l';
    private static final char TOO_LONG = 't';
    private static final char ACCEPTED = 'a';
    private static final char NO_BALLOON = '-';
    private static final char IS_OUT = 'o';
    private static final char WAITS = 'q';

    private final Program typedProgram = new Program();
    private final Numbers typedNumbers = new Numbers();
    private final Problem[] problems = new Problem[MAX_PROBLEMS];
    private final Run[] runs = new Run[MAX_RUNS];
    private final Machine machine = new Machine();
    private final Store store = new Store();
    private final Balloons balloons = new Balloons();
    private final Board trueBoard = new Board();
    private final Board publicBoard = new Board();
    private final Board freshBoard = new Board();
    private int problemCount = 0;
    private int teamCount = 0;
    private int runCount = 0;
    private int freezeMinute = NO_FREEZE;

    public Judgefold() {
        for (int i = 0; i < MAX_PROBLEMS; i++) {
            problems[i] = new Problem();
        }
        for (int i = 0; i < MAX_RUNS; i++) {
            runs[i] = new Run();
        }
    }

    public int step(char letter, int a, int b) throws IllegalArgumentException, IllegalStateException {
        if (!isStep(letter, a, b)) {
            throw new IllegalArgumentException();
        }
        if (typedProgram.size >= MAX_STEPS) {
            throw new IllegalStateException();
        }
        typedProgram.append(letter, a, b);
        return typedProgram.size;
    }

    public int number(int number, boolean isExpected) throws IllegalArgumentException, IllegalStateException {
        if (!isNumber(number)) {
            throw new IllegalArgumentException();
        }
        if (!typedNumbers.hasRoom(isExpected)) {
            throw new IllegalStateException();
        }
        return typedNumbers.append(number, isExpected);
    }

    public int wipe(boolean areSteps) {
        if (areSteps) {
            return typedProgram.clear();
        }
        return typedNumbers.clear();
    }

    public int problem(int colour, int limit) throws IllegalArgumentException, IllegalStateException {
        if (!isColour(colour) || !isWithin(limit, 1, MAX_LIMIT)) {
            throw new IllegalArgumentException();
        }
        if (problemCount >= MAX_PROBLEMS) {
            throw new IllegalStateException();
        }
        problems[problemCount].colour = colour;
        problems[problemCount].limit = limit;
        problemCount++;
        return problemCount - 1;
    }

    public int test(int problem) throws IndexOutOfBoundsException, IllegalStateException {
        if (!hasProblem(problem)) {
            throw new IndexOutOfBoundsException();
        }
        int added = problems[problem].testCount;
        if (added >= MAX_TESTS) {
            throw new IllegalStateException();
        }
        problems[problem].testCount++;
        problems[problem].contents[added].copyFrom(typedNumbers);
        return judgeAnew(problem, added);
    }

    public int fix(int problem, int test) throws IndexOutOfBoundsException {
        if (!hasProblem(problem) || !problems[problem].hasTest(test)) {
            throw new IndexOutOfBoundsException();
        }
        problems[problem].contents[test].copyFrom(typedNumbers);
        return judgeAnew(problem, test);
    }

    public int tests(int problem) throws IndexOutOfBoundsException {
        if (!hasProblem(problem)) {
            throw new IndexOutOfBoundsException();
        }
        return problems[problem].testCount;
    }

    public int team() throws IllegalStateException {
        if (teamCount >= MAX_TEAMS) {
            throw new IllegalStateException();
        }
        teamCount++;
        recountBoards();
        return teamCount - 1;
    }

    public int submit(int team, int problem, int minute)
            throws IndexOutOfBoundsException, IllegalArgumentException, IllegalStateException {
        if (!hasTeam(team) || !hasProblem(problem)) {
            throw new IndexOutOfBoundsException();
        }
        if (!isWithin(minute, lastMinute(), MAX_MINUTE)) {
            throw new IllegalArgumentException();
        }
        if (runCount >= MAX_RUNS) {
            throw new IllegalStateException();
        }
        Run run = runs[runCount];
        runCount++;
        run.team = team;
        run.problem = problem;
        run.minute = minute;
        run.isPending = minute >= freezeMinute;
        run.program.copyFrom(typedProgram);
        judgeByAll(run);
        recountBoards();
        balloons.follow(trueBoard, problem, problems[problem].colour);
        return runCount - 1;
    }

    public char verdict(int run) throws IndexOutOfBoundsException {
        if (!hasRun(run)) {
            throw new IndexOutOfBoundsException();
        }
        return runs[run].verdict;
    }

    public int failed(int run) throws IndexOutOfBoundsException {
        if (!hasRun(run)) {
            throw new IndexOutOfBoundsException();
        }
        return runs[run].failedTest;
    }

    public char ended(int run, int test) throws IndexOutOfBoundsException {
        if (!hasTestOfRun(run, test)) {
            throw new IndexOutOfBoundsException();
        }
        return runs[run].endings[test];
    }

    public int steps(int run, int test) throws IndexOutOfBoundsException {
        if (!hasTestOfRun(run, test)) {
            throw new IndexOutOfBoundsException();
        }
        return runs[run].stepCounts[test];
    }

    public int outputs(int run, int test) throws IndexOutOfBoundsException {
        if (!hasTestOfRun(run, test)) {
            throw new IndexOutOfBoundsException();
        }
        return store.sizeOf(runs[run].slots[test]);
    }

    public int output(int run, int test, int index) throws IndexOutOfBoundsException, NoSuchElementException {
        if (!hasTestOfRun(run, test)) {
            throw new IndexOutOfBoundsException();
        }
        int slot = runs[run].slots[test];
        if (!isWithin(index, 0, store.sizeOf(slot) - 1)) {
            throw new NoSuchElementException();
        }
        return store.numberAt(slot, index);
    }

    public int kept() {
        return store.usedSlots;
    }

    public int sharing(int run, int test) throws IndexOutOfBoundsException {
        if (!hasTestOfRun(run, test)) {
            throw new IndexOutOfBoundsException();
        }
        return store.usersOf(runs[run].slots[test]);
    }

    public int stock(int colour, int many) throws IllegalArgumentException {
        if (!isColour(colour) || !isWithin(many, 1, MAX_DELIVERY)) {
            throw new IllegalArgumentException();
        }
        balloons.stocks[colour] += many;
        balloons.serve(colour);
        return balloons.stocks[colour];
    }

    public int inStock(int colour) throws IllegalArgumentException {
        if (!isColour(colour)) {
            throw new IllegalArgumentException();
        }
        return balloons.stocks[colour];
    }

    public int out(int colour) throws IllegalArgumentException {
        if (!isColour(colour)) {
            throw new IllegalArgumentException();
        }
        return balloons.outCounts[colour];
    }

    public char balloon(int team, int problem) throws IndexOutOfBoundsException {
        if (!hasTeam(team) || !hasProblem(problem)) {
            throw new IndexOutOfBoundsException();
        }
        return balloons.states[spotOf(team, problem)];
    }

    public int waiting(int colour, int index) throws IllegalArgumentException, NoSuchElementException {
        if (!isColour(colour)) {
            throw new IllegalArgumentException();
        }
        if (!isWithin(index, 0, balloons.queueSizes[colour] - 1)) {
            throw new NoSuchElementException();
        }
        return teamOf(balloons.queues[colour][index]);
    }

    public int calledBack() {
        return balloons.callBacks;
    }

    public int freeze(int minute) throws IllegalArgumentException, UnsupportedOperationException {
        if (!isWithin(minute, 0, MAX_MINUTE)) {
            throw new IllegalArgumentException();
        }
        if (freezeMinute != NO_FREEZE) {
            throw new UnsupportedOperationException();
        }
        freezeMinute = minute;
        int hidden = 0;
        for (int i = 0; i < runCount; i++) {
            runs[i].isPending = runs[i].minute >= minute;
            hidden += runs[i].isPending ? 1 : 0;
        }
        recountBoards();
        return hidden;
    }

    public int pending(int team, int problem) throws IndexOutOfBoundsException {
        if (!hasTeam(team) || !hasProblem(problem)) {
            throw new IndexOutOfBoundsException();
        }
        return countPending(team, problem);
    }

    public int open() throws NoSuchElementException {
        int team = lowestPendingTeam();
        if (team == NONE) {
            throw new NoSuchElementException();
        }
        openRuns(team, lowestPendingProblem(team));
        recountBoards();
        return team;
    }

    public int solved(int team, boolean isPublic) throws IndexOutOfBoundsException {
        if (!hasTeam(team)) {
            throw new IndexOutOfBoundsException();
        }
        return boardOf(isPublic).solvedCounts[team];
    }

    public int penalty(int team, boolean isPublic) throws IndexOutOfBoundsException {
        if (!hasTeam(team)) {
            throw new IndexOutOfBoundsException();
        }
        return boardOf(isPublic).penalties[team];
    }

    public int rank(int team, boolean isPublic) throws IndexOutOfBoundsException {
        if (!hasTeam(team)) {
            throw new IndexOutOfBoundsException();
        }
        return boardOf(isPublic).rankOf(team);
    }

    public int ranked(int rank, boolean isPublic) throws NoSuchElementException {
        if (!isWithin(rank, 1, teamCount)) {
            throw new NoSuchElementException();
        }
        return boardOf(isPublic).order[rank - 1];
    }

    public float acceptedShare() throws ArithmeticException {
        if (runCount == 0) {
            throw new ArithmeticException();
        }
        int accepted = 0;
        for (int i = 0; i < runCount; i++) {
            if (runs[i].verdict == ACCEPTED) {
                accepted++;
            }
        }
        return (float) accepted / (float) runCount;
    }

    public double meanSteps() throws ArithmeticException {
        int sum = 0;
        int count = 0;
        for (int i = 0; i < runCount; i++) {
            int testCount = testCountOf(runs[i]);
            for (int test = 0; test < testCount; test++) {
                sum += runs[i].stepCounts[test];
            }
            count += testCount;
        }
        if (count == 0) {
            throw new ArithmeticException();
        }
        return (double) sum / (double) count;
    }

    public long checksum() {
        long sum = 7;
        for (int i = 0; i < runCount; i++) {
            int testCount = testCountOf(runs[i]);
            for (int test = 0; test < testCount; test++) {
                sum = 31 * store.addTo(sum, runs[i].slots[test]) + 1000;
            }
        }
        return sum;
    }

    public boolean isTrue() {
        return isRankedAnew(true) && isRankedAnew(false) && areBalloonsEarned() && balloons.isStockLeftOver()
                && areOutputsAnew();
    }

    private static boolean isWithin(int number, int lowest, int highest) {
        return number >= lowest && number <= highest;
    }

    private static boolean isPlace(int place) {
        return isWithin(place, 0, PLACES - 1);
    }

    private static boolean isNumber(int number) {
        return isWithin(number, -MAX_NUMBER, MAX_NUMBER);
    }

    private static boolean isColour(int colour) {
        return isWithin(colour, 0, COLOURS - 1);
    }

    private static boolean isStep(char letter, int a, int b) {
        switch (letter) {
            case 'i':
            case 'o':
                return isPlace(a);
            case 's':
                return isPlace(a) && isNumber(b);
            case 'a':
            case 'm':
            case 'd':
                return isPlace(a) && isPlace(b);
            case 'j':
            case 'n':
                return isPlace(a) && isWithin(b, 0, MAX_GOAL);
            case 'h':
                return true;
            default:
                return false;
        }
    }

    private static int spotOf(int team, int problem) {
        return team * MAX_PROBLEMS + problem;
    }

    private static int teamOf(int spot) {
        return spot / MAX_PROBLEMS;
    }

    private boolean hasProblem(int problem) {
        return isWithin(problem, 0, problemCount - 1);
    }

    private boolean hasTeam(int team) {
        return isWithin(team, 0, teamCount - 1);
    }

    private boolean hasRun(int run) {
        return isWithin(run, 0, runCount - 1);
    }

    private boolean hasTestOfRun(int run, int test) {
        return hasRun(run) && problems[runs[run].problem].hasTest(test);
    }

    private int testCountOf(Run run) {
        return problems[run.problem].testCount;
    }

    private int lastMinute() {
        return runCount == 0 ? 0 : runs[runCount - 1].minute;
    }

    private Board boardOf(boolean isPublic) {
        return isPublic ? publicBoard : trueBoard;
    }

    private void recountBoards() {
        trueBoard.recount(runs, runCount, teamCount, false);
        publicBoard.recount(runs, runCount, teamCount, true);
    }

    private void judgeByAll(Run run) {
        int testCount = testCountOf(run);
        for (int test = 0; test < testCount; test++) {
            judge(run, test);
        }
        run.conclude(testCount);
    }

    /** Runs a program by one test; the old output goes first, so that a slot for the new one is free. */
    private void judge(Run run, int test) {
        Problem problem = problems[run.problem];
        machine.execute(run.program, problem.contents[test], problem.limit);
        store.release(run.slots[test]);
        run.slots[test] = store.keep(machine.output, machine.outputSize);
        run.endings[test] = machine.ending;
        run.stepCounts[test] = machine.stepsDone;
    }

    /** The other tests of the problem are as they were, and would end as they did. */
    private int judgeAnew(int problem, int test) {
        int changed = 0;
        for (int i = 0; i < runCount; i++) {
            if (runs[i].problem == problem) {
                char before = runs[i].verdict;
                judge(runs[i], test);
                runs[i].conclude(problems[problem].testCount);
                if (runs[i].verdict != before) {
                    changed++;
                }
            }
        }
        recountBoards();
        balloons.follow(trueBoard, problem, problems[problem].colour);
        return changed;
    }

    private int countPending(int team, int problem) {
        int count = 0;
        for (int i = 0; i < runCount; i++) {
            if (runs[i].isPending && runs[i].team == team && runs[i].problem == problem) {
                count++;
            }
        }
        return count;
    }

    private int lowestPendingProblem(int team) {
        for (int problem = 0; problem < problemCount; problem++) {
            if (countPending(team, problem) > 0) {
                return problem;
            }
        }
        return NONE;
    }

    private int lowestPendingTeam() {
        for (int place = teamCount - 1; place >= 0; place--) {
            int team = publicBoard.order[place];
            if (lowestPendingProblem(team) != NONE) {
                return team;
            }
        }
        return NONE;
    }

    private void openRuns(int team, int problem) {
        for (int i = 0; i < runCount; i++) {
            if (runs[i].team == team && runs[i].problem == problem) {
                runs[i].isPending = false;
            }
        }
    }

    private boolean isRankedAnew(boolean isPublic) {
        freshBoard.recount(runs, runCount, teamCount, isPublic);
        return freshBoard.isLike(boardOf(isPublic));
    }

    private boolean areBalloonsEarned() {
        freshBoard.recount(runs, runCount, teamCount, false);
        for (int team = 0; team < teamCount; team++) {
            for (int problem = 0; problem < problemCount; problem++) {
                int spot = spotOf(team, problem);
                boolean hasBalloon = balloons.states[spot] != NO_BALLOON;
                if (hasBalloon != freshBoard.hasSolved(spot)) {
                    return false;
                }
            }
        }
        return true;
    }

    private boolean areOutputsAnew() {
        for (int i = 0; i < runCount; i++) {
            Problem problem = problems[runs[i].problem];
            for (int test = 0; test < problem.testCount; test++) {
                machine.execute(runs[i].program, problem.contents[test], problem.limit);
                if (!store.isAlike(runs[i].slots[test], machine.output, machine.outputSize)) {
                    return false;
                }
            }
        }
        return true;
    }

    /** Steps, as they are typed or as a run has them. */
    private static final class Program {
        final char[] letters = new char[MAX_STEPS];
        final int[] firsts = new int[MAX_STEPS];
        final int[] seconds = new int[MAX_STEPS];
        int size = 0;

        void append(char letter, int first, int second) {
            if (size < MAX_STEPS) {
                letters[size] = letter;
                firsts[size] = first;
                seconds[size] = second;
                size++;
            }
        }

        int clear() {
            int wiped = size;
            size = 0;
            return wiped;
        }

        void copyFrom(Program other) {
            size = 0;
            for (int i = 0; i < other.size; i++) {
                append(other.letters[i], other.firsts[i], other.seconds[i]);
            }
        }
    }

    /** An input and an expected output, as they are typed or as a test has them. */
    private static final class Numbers {
        final int[] input = new int[MAX_INPUT];
        final int[] expected = new int[MAX_OUTPUT];
        int inputSize = 0;
        int expectedSize = 0;

        boolean hasRoom(boolean isExpected) {
            return isExpected ? expectedSize < MAX_OUTPUT : inputSize < MAX_INPUT;
        }

        int append(int number, boolean isExpected) {
            if (!hasRoom(isExpected)) {
                return NONE;
            }
            if (isExpected) {
                expected[expectedSize] = number;
                expectedSize++;
                return expectedSize;
            }
            input[inputSize] = number;
            inputSize++;
            return inputSize;
        }

        int clear() {
            int wiped = inputSize + expectedSize;
            inputSize = 0;
            expectedSize = 0;
            return wiped;
        }

        void copyFrom(Numbers other) {
            clear();
            for (int i = 0; i < other.inputSize; i++) {
                append(other.input[i], false);
            }
            for (int i = 0; i < other.expectedSize; i++) {
                append(other.expected[i], true);
            }
        }

        boolean isExpected(int[] output, int outputSize) {
            if (outputSize != expectedSize) {
                return false;
            }
            for (int i = 0; i < expectedSize; i++) {
                if (output[i] != expected[i]) {
                    return false;
                }
            }
            return true;
        }
    }

    private static final class Problem {
        final Numbers[] contents = new Numbers[MAX_TESTS];
        int colour = 0;
        int limit = 1;
        int testCount = 0;

        Problem() {
            for (int i = 0; i < MAX_TESTS; i++) {
                contents[i] = new Numbers();
            }
        }

        boolean hasTest(int test) {
            return isWithin(test, 0, testCount - 1);
        }
    }

    private static final class Run {
        final Program program = new Program();
        final char[] endings = new char[MAX_TESTS];
        final int[] stepCounts = new int[MAX_TESTS];
        final int[] slots = new int[MAX_TESTS];
        int team = 0;
        int problem = 0;
        int minute = 0;
        boolean isPending = false;
        char verdict = ACCEPTED;
        int failedTest = NONE;

        Run() {
            for (int i = 0; i < MAX_TESTS; i++) {
                slots[i] = NONE;
            }
        }

        void conclude(int testCount) {
            verdict = ACCEPTED;
            failedTest = NONE;
            for (int test = 0; test < testCount && failedTest == NONE; test++) {
                if (endings[test] != AS_EXPECTED) {
                    verdict = endings[test];
                    failedTest = test;
                }
            }
        }
    }

    /** Runs programs; what it holds is that of the last one. */
    private static final class Machine {
        final int[] places = new int[PLACES];
        final int[] output = new int[MAX_OUTPUT];
        int outputSize = 0;
        int inputsTaken = 0;
        int nextStep = 0;
        int stepsDone = 0;
        char ending = GOES_ON;

        void execute(Program program, Numbers content, int limit) {
            reset();
            for (int i = 0; i < limit && ending == GOES_ON && nextStep < program.size; i++) {
                stepsDone++;
                doNextStep(program, content);
            }
            if (ending == GOES_ON && nextStep < program.size) {
                ending = TOO_LONG;
            } else if (ending == GOES_ON) {
                ending = content.isExpected(output, outputSize) ? AS_EXPECTED : WRONG;
            }
        }

        private void reset() {
            for (int i = 0; i < PLACES; i++) {
                places[i] = 0;
            }
            outputSize = 0;
            inputsTaken = 0;
            nextStep = 0;
            stepsDone = 0;
            ending = GOES_ON;
        }

        private void doNextStep(Program program, Numbers content) {
            char letter = program.letters[nextStep];
            int a = program.firsts[nextStep];
            int b = program.seconds[nextStep];
            nextStep++;
            switch (letter) {
                case 'i':
                    takeInput(a, content);
                    break;
                case 'o':
                    putOut(places[a]);
                    break;
                case 's':
                    places[a] = b;
                    break;
                case 'a':
                    places[a] += places[b];
                    break;
                case 'm':
                    places[a] *= places[b];
                    break;
                case 'd':
                    divide(a, places[b]);
                    break;
                case 'j':
                    goIf(places[a] != 0, b, program.size);
                    break;
                case 'n':
                    goIf(places[a] < 0, b, program.size);
                    break;
                default:
                    nextStep = program.size;
                    break;
            }
        }

        private void takeInput(int place, Numbers content) {
            if (inputsTaken >= content.inputSize) {
                ending = ERROR;
                return;
            }
            places[place] = content.input[inputsTaken];
            inputsTaken++;
        }

        private void putOut(int number) {
            if (outputSize >= MAX_OUTPUT) {
                ending = TOO_MUCH;
                return;
            }
            output[outputSize] = number;
            outputSize++;
        }

        private void divide(int place, int divisor) {
            if (divisor == 0) {
                ending = ERROR;
                return;
            }
            places[place] /= divisor;
        }

        private void goIf(boolean isMet, int goal, int size) {
            if (isMet && goal >= size) {
                ending = ERROR;
            } else if (isMet) {
                nextStep = goal;
            }
        }
    }

    /** Outputs, each kept once in a slot that is free again as no test of a run has it. */
    private static final class Store {
        final int[] numbers = new int[SLOTS * MAX_OUTPUT];
        final int[] sizes = new int[SLOTS];
        final int[] users = new int[SLOTS];
        int usedSlots = 0;

        int keep(int[] output, int size) {
            int slot = find(output, size);
            if (slot == NONE) {
                slot = firstFree();
                fill(slot, output, size);
                usedSlots++;
            }
            users[slot]++;
            return slot;
        }

        void release(int slot) {
            if (slot < 0 || slot >= SLOTS) {
                return;
            }
            users[slot]--;
            if (users[slot] == 0) {
                usedSlots--;
            }
        }

        // A test that was not judged yet has the slot NONE, and so nothing in it.
        int sizeOf(int slot) {
            return slot < 0 || slot >= SLOTS ? 0 : sizes[slot];
        }

        int usersOf(int slot) {
            return slot < 0 || slot >= SLOTS ? 0 : users[slot];
        }

        int numberAt(int slot, int index) {
            return numbers[slot * MAX_OUTPUT + index];
        }

        boolean isAlike(int slot, int[] output, int size) {
            if (sizeOf(slot) != size) {
                return false;
            }
            for (int i = 0; i < size; i++) {
                if (numberAt(slot, i) != output[i]) {
                    return false;
                }
            }
            return true;
        }

        long addTo(long sum, int slot) {
            long added = sum;
            for (int i = 0; i < sizeOf(slot); i++) {
                added = 31 * added + numberAt(slot, i);
            }
            return added;
        }

        private int find(int[] output, int size) {
            for (int slot = 0; slot < SLOTS; slot++) {
                if (users[slot] > 0 && isAlike(slot, output, size)) {
                    return slot;
                }
            }
            return NONE;
        }

        // The last slot is free if no other is: the test that asks for one has none.
        private int firstFree() {
            int slot = 0;
            while (slot < SLOTS - 1 && users[slot] > 0) {
                slot++;
            }
            return slot;
        }

        private void fill(int slot, int[] output, int size) {
            for (int i = 0; i < size; i++) {
                numbers[slot * MAX_OUTPUT + i] = output[i];
            }
            sizes[slot] = size;
        }
    }

    /** Balloons by the spots of those who have them, or wait for them in the queue of a colour. */
    private static final class Balloons {
        final char[] states = new char[SPOTS];
        final int[][] queues = new int[COLOURS][SPOTS];
        final int[] queueSizes = new int[COLOURS];
        final int[] stocks = new int[COLOURS];
        final int[] outCounts = new int[COLOURS];
        int callBacks = 0;

        Balloons() {
            for (int spot = 0; spot < SPOTS; spot++) {
                states[spot] = NO_BALLOON;
            }
        }

        /** Those who waited before are served ahead of those who have solved the problem just now. */
        void follow(Board board, int problem, int colour) {
            for (int team = 0; team < board.teamCount; team++) {
                int spot = spotOf(team, problem);
                if (!board.hasSolved(spot)) {
                    takeAway(spot, colour);
                }
            }
            serve(colour);
            for (int team = 0; team < board.teamCount; team++) {
                int spot = spotOf(team, problem);
                if (board.hasSolved(spot) && states[spot] == NO_BALLOON) {
                    enqueue(spot, colour);
                    serve(colour);
                }
            }
        }

        void serve(int colour) {
            int served = 0;
            while (served < queueSizes[colour] && stocks[colour] > 0) {
                states[queues[colour][served]] = IS_OUT;
                stocks[colour]--;
                outCounts[colour]++;
                served++;
            }
            dropFromQueue(colour, 0, served);
        }

        boolean isStockLeftOver() {
            for (int colour = 0; colour < COLOURS; colour++) {
                if (stocks[colour] > 0 && queueSizes[colour] > 0) {
                    return false;
                }
            }
            return true;
        }

        private void takeAway(int spot, int colour) {
            if (states[spot] == IS_OUT) {
                callBacks++;
                stocks[colour]++;
                outCounts[colour]--;
            } else if (states[spot] == WAITS) {
                leaveQueue(spot, colour);
            }
            states[spot] = NO_BALLOON;
        }

        private void enqueue(int spot, int colour) {
            if (queueSizes[colour] < SPOTS) {
                queues[colour][queueSizes[colour]] = spot;
                queueSizes[colour]++;
                states[spot] = WAITS;
            }
        }

        private void leaveQueue(int spot, int colour) {
            for (int i = 0; i < queueSizes[colour]; i++) {
                if (queues[colour][i] == spot) {
                    dropFromQueue(colour, i, 1);
                    return;
                }
            }
        }

        private void dropFromQueue(int colour, int first, int count) {
            if (count == 0) {
                return;
            }
            int[] queue = queues[colour];
            for (int i = first; i + count < queueSizes[colour]; i++) {
                queue[i] = queue[i + count];
            }
            queueSizes[colour] -= count;
        }
    }

    /** What runs make of teams, with the teams in the order of their ranks. */
    private static final class Board {
        final int[] failures = new int[SPOTS];
        final int[] firstMinutes = new int[SPOTS];
        final int[] solvedCounts = new int[MAX_TEAMS];
        final int[] penalties = new int[MAX_TEAMS];
        final int[] latestMinutes = new int[MAX_TEAMS];
        final int[] order = new int[MAX_TEAMS];
        int teamCount = 0;

        void recount(Run[] runs, int runCount, int teams, boolean isPublic) {
            clear();
            teamCount = teams;
            for (int i = 0; i < runCount && i < runs.length; i++) {
                if (!isPublic || !runs[i].isPending) {
                    count(runs[i]);
                }
            }
            putInOrder();
        }

        boolean hasSolved(int spot) {
            return firstMinutes[spot] != NONE;
        }

        int rankOf(int team) {
            int place = 0;
            while (place < teamCount - 1 && order[place] != team) {
                place++;
            }
            return place + 1;
        }

        boolean isLike(Board other) {
            if (teamCount != other.teamCount) {
                return false;
            }
            for (int i = 0; i < teamCount; i++) {
                if (order[i] != other.order[i] || solvedCounts[i] != other.solvedCounts[i]
                        || penalties[i] != other.penalties[i]) {
                    return false;
                }
            }
            return true;
        }

        private void clear() {
            for (int spot = 0; spot < SPOTS; spot++) {
                failures[spot] = 0;
                firstMinutes[spot] = NONE;
            }
            for (int team = 0; team < MAX_TEAMS; team++) {
                solvedCounts[team] = 0;
                penalties[team] = 0;
                latestMinutes[team] = 0;
            }
        }

        private void count(Run run) {
            int spot = spotOf(run.team, run.problem);
            if (hasSolved(spot)) {
                return;
            }
            if (run.verdict != ACCEPTED) {
                failures[spot]++;
                return;
            }
            firstMinutes[spot] = run.minute;
            solvedCounts[run.team]++;
            penalties[run.team] += run.minute + MINUTES_A_FAILURE * failures[spot];
            latestMinutes[run.team] = Math.max(latestMinutes[run.team], run.minute);
        }

        private void putInOrder() {
            for (int team = 0; team < teamCount; team++) {
                int place = team;
                while (place > 0 && isAhead(team, order[place - 1])) {
                    order[place] = order[place - 1];
                    place--;
                }
                order[place] = team;
            }
        }

        private boolean isAhead(int team, int other) {
            if (solvedCounts[team] != solvedCounts[other]) {
                return solvedCounts[team] > solvedCounts[other];
            }
            if (penalties[team] != penalties[other]) {
                return penalties[team] < penalties[other];
            }
            if (latestMinutes[team] != latestMinutes[other]) {
                return latestMinutes[team] < latestMinutes[other];
            }
            return team < other;
        }
    }
}
