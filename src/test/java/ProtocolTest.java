/** Promises 1 to 7: a new object, addProcess, addVariable, addMove, guard, deed, count. */
public final class ProtocolTest {
    private static final Expect EXPECT = new Expect("ProtocolTest");

    public static void main(String[] args) {
        newObject();
        addProcess();
        addVariable();
        addMove();
        guardArguments();
        guardSorts();
        deedArguments();
        deedSorts();
        count();
        changesUnexplore();
        failedCallsChangeNothing();
        EXPECT.end();
    }

    private static void newObject() {
        FairChecker x = new FairChecker();
        for (int what = 0; what <= 5; what++) {
            EXPECT.same("1: count(" + what + ") of a new object", x.count(what), 0);
        }
        EXPECT.fails("1: explore() without a process", Expect.STATE, x::explore);
        EXPECT.fails("1: state of a new object", Expect.INDEX, () -> x.state(0, 9));
        EXPECT.fails("1: stuck() of a new object", Expect.STATE, x::stuck);
        EXPECT.same("1: branching() of a new object", x.branching(), 0.0);
    }

    private static void addProcess() {
        FairChecker x = new FairChecker();
        for (int bad : new int[] {0, -1, 9, Integer.MIN_VALUE, Integer.MAX_VALUE}) {
            EXPECT.fails("2: addProcess(" + bad + ")", Expect.ARGUMENT, () -> x.addProcess(bad));
        }
        int[] locations = {1, 8, 2, 3, 4};
        for (int i = 0; i < 5; i++) {
            EXPECT.same("2: addProcess", x.addProcess(locations[i]), i);
        }
        EXPECT.fails("2: a sixth process", Expect.STATE, () -> x.addProcess(1));
        EXPECT.fails("2: a sixth process without locations", Expect.ARGUMENT, () -> x.addProcess(0));
        EXPECT.same("2: count(0)", x.count(0), 5);
        EXPECT.same("2: explore()", x.explore(), 1);
        for (int p = 0; p < 5; p++) {
            EXPECT.same("2: a process begins at 0", x.state(0, p), 0);
        }
    }

    private static void addVariable() {
        FairChecker x = new FairChecker();
        int[][] bad = {{0, 0}, {10, 0}, {-1, 0}, {5, 6}, {5, -1}, {9, 10}, {Integer.MAX_VALUE, 0}};
        for (int[] b : bad) {
            EXPECT.fails("3: addVariable", Expect.ARGUMENT, () -> x.addVariable(b[0], b[1]));
        }
        EXPECT.same("3: addVariable(1, 0)", x.addVariable(1, 0), 0);
        EXPECT.same("3: addVariable(9, 9)", x.addVariable(9, 9), 1);
        EXPECT.same("3: addVariable(1, 1)", x.addVariable(1, 1), 2);
        EXPECT.same("3: addVariable(7, 4)", x.addVariable(7, 4), 3);
        EXPECT.fails("3: a fifth variable", Expect.STATE, () -> x.addVariable(1, 0));
        EXPECT.fails("3: a fifth variable, wrong", Expect.ARGUMENT, () -> x.addVariable(1, 2));
        EXPECT.same("3: count(1)", x.count(1), 4);
        x.addProcess(1);
        x.explore();
        int[] begin = {0, 9, 1, 4};
        for (int v = 0; v < 4; v++) {
            EXPECT.same("3: begin", x.state(0, 5 + v), begin[v]);
        }
    }

    private static void addMove() {
        FairChecker x = new FairChecker();
        EXPECT.fails("4: no process", Expect.INDEX, () -> x.addMove(0, 0, 0, 0));
        x.addProcess(3);
        x.addProcess(1);
        EXPECT.fails("4: process -1", Expect.INDEX, () -> x.addMove(-1, 9, 9, 99));
        EXPECT.fails("4: process 2", Expect.INDEX, () -> x.addMove(2, 0, 0, 0));
        int[][] bad = {{0, 3, 0, 0}, {0, -1, 0, 0}, {0, 0, 3, 0}, {0, 0, -1, 0}, {0, 0, 0, -1}, {0, 0, 0, 10},
            {1, 1, 0, 0}, {1, 0, 1, 0}};
        for (int[] b : bad) {
            EXPECT.fails("4: addMove", Expect.ARGUMENT, () -> x.addMove(b[0], b[1], b[2], b[3]));
        }
        EXPECT.same("4: none was added", x.count(2), 0);
        for (int m = 0; m < 16; m++) {
            EXPECT.same("4: addMove", x.addMove(0, m % 3, (m + 1) % 3, m % 10), m);
        }
        EXPECT.fails("4: a seventeenth move", Expect.STATE, () -> x.addMove(0, 0, 0, 0));
        EXPECT.fails("4: a seventeenth move, wrong", Expect.ARGUMENT, () -> x.addMove(0, 0, 0, 10));
        EXPECT.same("4: of another process", x.addMove(1, 0, 0, 9), 0);
        EXPECT.same("4: count(2)", x.count(2), 17);
        FairChecker y = new FairChecker();
        y.addProcess(2);
        y.addMove(0, 0, 1, 0);
        EXPECT.same("4: a move has no guard", y.guard(0, 0, 0, 0, 0), 0);
        EXPECT.same("4: a move has no deed", y.deed(0, 0, 0, 0, 0), 0);
        EXPECT.same("4: it goes", y.explore(), 2);
    }

    private static FairChecker withMove() {
        FairChecker x = new FairChecker();
        x.addProcess(2);
        x.addVariable(5, 2);
        x.addMove(0, 0, 1, 0);
        return x;
    }

    private static void guardArguments() {
        FairChecker x = withMove();
        EXPECT.fails("5: no process", Expect.INDEX, () -> x.guard(1, 0, 9, 9, 99));
        EXPECT.fails("5: process -1", Expect.INDEX, () -> x.guard(-1, 0, 0, 0, 0));
        EXPECT.fails("5: no move", Expect.INDEX, () -> x.guard(0, 1, 9, 9, 99));
        EXPECT.fails("5: move -1", Expect.INDEX, () -> x.guard(0, -1, 0, 0, 0));
        EXPECT.fails("5: move 16", Expect.INDEX, () -> x.guard(0, 16, 0, 0, 0));
        int[][] bad = {{-1, 0, 0}, {5, 0, 0}, {1, 1, 0}, {4, -1, 0}, {1, 0, -1}, {1, 0, 10}, {0, 0, -1}, {0, 9, 10}};
        for (int[] b : bad) {
            EXPECT.fails("5: guard", Expect.ARGUMENT, () -> x.guard(0, 0, b[0], b[1], b[2]));
        }
        EXPECT.same("5: the first one", x.guard(0, 0, 3, 0, 9), 0);
        EXPECT.same("5: the sort before", x.guard(0, 0, 4, 0, 0), 3);
        EXPECT.same("5: without a variable", x.guard(0, 0, 0, Integer.MIN_VALUE, 0), 4);
        EXPECT.same("5: without a variable", x.guard(0, 0, 0, 4, 9), 0);
        EXPECT.same("5: it still goes", x.explore(), 2);
    }

    private static void guardSorts() {
        for (int number = 0; number <= 9; number++) {
            for (int sort = 0; sort <= 4; sort++) {
                FairChecker x = withMove();
                x.guard(0, 0, sort, 0, number);
                boolean isOpen = sort == 0 || sort == 1 && 2 == number || sort == 2 && 2 != number
                    || sort == 3 && 2 < number || sort == 4 && 2 > number;
                EXPECT.same("5: sort " + sort + " number " + number, x.explore(), isOpen ? 2 : 1);
            }
        }
    }

    private static void deedArguments() {
        FairChecker x = withMove();
        EXPECT.fails("6: no process", Expect.INDEX, () -> x.deed(1, 0, 9, 9, 99));
        EXPECT.fails("6: process -1", Expect.INDEX, () -> x.deed(-1, 0, 0, 0, 0));
        EXPECT.fails("6: no move", Expect.INDEX, () -> x.deed(0, 1, 9, 9, 99));
        EXPECT.fails("6: move -1", Expect.INDEX, () -> x.deed(0, -1, 0, 0, 0));
        int[][] bad = {{-1, 0, 0}, {3, 0, 0}, {1, 1, 0}, {2, -1, 0}, {1, 0, -10}, {1, 0, 10}, {0, 0, -10}, {0, 9, 10}};
        for (int[] b : bad) {
            EXPECT.fails("6: deed", Expect.ARGUMENT, () -> x.deed(0, 0, b[0], b[1], b[2]));
        }
        EXPECT.same("6: the first one", x.deed(0, 0, 1, 0, -9), 0);
        EXPECT.same("6: the sort before", x.deed(0, 0, 2, 0, 9), 1);
        EXPECT.same("6: without a variable", x.deed(0, 0, 0, Integer.MAX_VALUE, -9), 2);
        EXPECT.same("6: without a variable", x.deed(0, 0, 0, -1, 9), 0);
        EXPECT.same("6: it still goes", x.explore(), 2);
        EXPECT.same("6: and does nothing", x.state(1, 5), 2);
    }

    private static void deedSorts() {
        for (int number = -9; number <= 9; number++) {
            for (int sort = 0; sort <= 2; sort++) {
                FairChecker x = withMove();
                x.deed(0, 0, sort, 0, number);
                int value = sort == 0 ? 2 : sort == 1 ? number : 2 + number;
                boolean isOpen = value >= 0 && value <= 5;
                EXPECT.same("6: sort " + sort + " number " + number, x.explore(), isOpen ? 2 : 1);
                if (isOpen) {
                    EXPECT.same("6: sort " + sort + " number " + number, x.state(1, 5), value);
                }
            }
        }
    }

    private static void count() {
        FairChecker x = withMove();
        x.addProcess(1);
        x.addMove(1, 0, 0, 0);
        x.addMove(1, 0, 0, 3);
        x.addFact(0, 0, 1);
        long[] unexplored = {2, 1, 3, 1, 0, 0};
        for (int what = 0; what < 6; what++) {
            EXPECT.same("7: count(" + what + ")", x.count(what), unexplored[what]);
        }
        x.explore();
        long[] explored = {2, 1, 3, 1, 2, 3};
        for (int what = 0; what < 6; what++) {
            EXPECT.same("7: count(" + what + ")", x.count(what), explored[what]);
        }
        for (int bad : new int[] {-1, 6, Integer.MIN_VALUE, Integer.MAX_VALUE}) {
            EXPECT.fails("7: count(" + bad + ")", Expect.INDEX, () -> x.count(bad));
        }
    }

    private static void changesUnexplore() {
        Expect.Call[] changes = new Expect.Call[5];
        for (int i = 0; i < changes.length; i++) {
            FairChecker x = withMove();
            x.addFact(0, 0, 1);
            changes[0] = () -> x.addProcess(1);
            changes[1] = () -> x.addVariable(1, 0);
            changes[2] = () -> x.addMove(0, 0, 0, 0);
            changes[3] = () -> x.guard(0, 0, 0, 0, 0);
            changes[4] = () -> x.deed(0, 0, 0, 0, 0);
            x.explore();
            changes[i].answer();
            EXPECT.same("change " + i + ": count(4)", x.count(4), 0);
            EXPECT.same("change " + i + ": count(5)", x.count(5), 0);
            EXPECT.fails("change " + i + ": state", Expect.INDEX, () -> x.state(0, 0));
            EXPECT.fails("change " + i + ": step", Expect.INDEX, () -> x.step(0, 0, 0));
            EXPECT.fails("change " + i + ": holds", Expect.INDEX, () -> x.holds(0, 0) ? 1 : 0);
            EXPECT.fails("change " + i + ": isBad", Expect.INDEX, () -> x.isBad(0, 0) ? 1 : 0);
            EXPECT.fails("change " + i + ": way", Expect.INDEX, () -> x.way(0, 0, 0));
            EXPECT.fails("change " + i + ": where", Expect.STATE, () -> x.where(0, true));
            EXPECT.fails("change " + i + ": stuck", Expect.STATE, x::stuck);
            EXPECT.fails("change " + i + ": leads", Expect.STATE, () -> x.leads(0, 0));
            EXPECT.fails("change " + i + ": trapped", Expect.STATE, () -> x.trapped(0));
            EXPECT.same("change " + i + ": branching", x.branching(), 0.0);
        }
        FairChecker x = withMove();
        x.explore();
        x.addFact(0, 0, 0);
        EXPECT.same("a fact leaves it explored", x.count(4), 2);
    }

    private static void failedCallsChangeNothing() {
        FairChecker x = withMove();
        x.addFact(0, 0, 1);
        x.explore();
        long before = x.digest();
        EXPECT.fails("addProcess(9)", Expect.ARGUMENT, () -> x.addProcess(9));
        EXPECT.fails("addVariable(0, 0)", Expect.ARGUMENT, () -> x.addVariable(0, 0));
        EXPECT.fails("addMove(0, 2, 0, 0)", Expect.ARGUMENT, () -> x.addMove(0, 2, 0, 0));
        EXPECT.fails("guard(0, 0, 1, 1, 0)", Expect.ARGUMENT, () -> x.guard(0, 0, 1, 1, 0));
        EXPECT.fails("deed(0, 0, 1, 1, 0)", Expect.ARGUMENT, () -> x.deed(0, 0, 1, 1, 0));
        EXPECT.fails("addFact(3, 1, 0)", Expect.ARGUMENT, () -> x.addFact(3, 1, 0));
        EXPECT.same("digest", x.digest(), before);
        EXPECT.same("the guard's sort", x.guard(0, 0, 0, 0, 0), 0);
        EXPECT.same("the deed's sort", x.deed(0, 0, 0, 0, 0), 0);
    }
}
