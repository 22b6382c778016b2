import java.util.function.Supplier;

/** Promises 1 to 7: each sentence that names a boundary, at the last value in and at the first out. */
public final class ProtocolBoundaryTest {
    private static final Expect EXPECT = new Expect("ProtocolBoundaryTest");
    private static final Refusal REFUSAL = new Refusal(EXPECT);

    public static void main(String[] args) {
        newObjectHasNothing();
        newObjectRefuses();
        newObjectTakesTheFirst();

        locationsOfProcess();
        fiveProcesses();
        processErrorsInOrder();

        greatestOfVariable();
        beginOfVariable();
        fourVariables();
        variableErrorsInOrder();

        processOfMove();
        locationsOfMove();
        handOfMove();
        sixteenMoves();
        moveErrorsInOrder();

        moveOfGuardAndDeed();
        sortOfGuardAndDeed();
        variableOfGuardAndDeed();
        variableOfSortNone();
        numberOfGuard();
        numberOfDeed();
        sortBefore();
        guardAndDeedErrorsInOrder();

        whatOfCount();
        countsAtTheirMost();
        eachChangeUnexplores();
        refusedCallLeavesItExplored();
        EXPECT.end();
    }

    // ---- promise 1: "Creates a checker without processes, variables and facts, unexplored."

    private static void newObjectHasNothing() {
        FairChecker x = new FairChecker();
        for (int what = 0; what <= 5; what++) {
            EXPECT.same("1: count(" + what + ")", x.count(what), 0);
        }
        EXPECT.same("1: branching()", x.branching(), 0.0);
    }

    private static void newObjectRefuses() {
        Supplier<FairChecker> maker = FairChecker::new;
        REFUSAL.refused("1: addMove", Expect.INDEX, maker, x -> x.addMove(0, 0, 0, 0));
        REFUSAL.refused("1: guard", Expect.INDEX, maker, x -> x.guard(0, 0, 0, 0, 0));
        REFUSAL.refused("1: deed", Expect.INDEX, maker, x -> x.deed(0, 0, 0, 0, 0));
        REFUSAL.refused("1: explore", Expect.STATE, maker, x -> x.explore());
        REFUSAL.refused("1: state", Expect.INDEX, maker, x -> x.state(0, 9));
        REFUSAL.refused("1: step", Expect.INDEX, maker, x -> x.step(0, 0, 0));
        for (int sort = 0; sort <= 5; sort++) {
            int s = sort;
            REFUSAL.refused("1: addFact of sort " + s, Expect.ARGUMENT, maker, x -> x.addFact(s, 0, 0));
        }
        REFUSAL.refused("1: holds", Expect.INDEX, maker, x -> x.holds(0, 0) ? 1 : 0);
        REFUSAL.refused("1: where", Expect.INDEX, maker, x -> x.where(0, false));
        REFUSAL.refused("1: stuck", Expect.STATE, maker, x -> x.stuck());
        REFUSAL.refused("1: leads", Expect.INDEX, maker, x -> x.leads(0, 0));
        REFUSAL.refused("1: isBad", Expect.INDEX, maker, x -> x.isBad(0, 0) ? 1 : 0);
        REFUSAL.refused("1: trapped", Expect.INDEX, maker, x -> x.trapped(0));
        REFUSAL.refused("1: way", Expect.INDEX, maker, x -> x.way(0, 0, 0));
    }

    private static void newObjectTakesTheFirst() {
        FairChecker x = new FairChecker();
        EXPECT.same("1: the first variable", x.addVariable(1, 0), 0);
        EXPECT.same("1: the first process", x.addProcess(1), 0);
        EXPECT.same("1: the first move", x.addMove(0, 0, 0, 0), 0);
        EXPECT.same("1: the first fact", x.addFact(0, 0, 0), 0);
        EXPECT.same("1: the first state", x.explore(), 1);
    }

    // ---- promise 2

    /** "if locations is not 1 to 8"; "a process has 1 to 8 locations, numbered from 0, and begins at 0". */
    private static void locationsOfProcess() {
        REFUSAL.outside("2: locations", Expect.ARGUMENT, Protocols::small, 1, 8, (x, n) -> x.addProcess(n));
        REFUSAL.outside("2: locations", Expect.ARGUMENT, FairChecker::new, 1, 8, (x, n) -> x.addProcess(n));
        for (int locations = 1; locations <= 8; locations++) {
            FairChecker x = new FairChecker();
            EXPECT.same("2: addProcess(" + locations + ")", x.addProcess(locations), 0);
            for (int l = 1; l < locations; l++) {
                x.addMove(0, l - 1, l, 0);
            }
            EXPECT.same("2: each of its locations", x.explore(), locations);
            EXPECT.same("2: it begins at 0", x.state(0, 0), 0);
            EXPECT.same("2: its last location", x.state(locations - 1, 0), locations - 1);
        }
    }

    /** "if there are 5"; "at most 5 processes, numbered from 0 in the order of their creation". */
    private static void fiveProcesses() {
        FairChecker x = new FairChecker();
        for (int p = 0; p < 5; p++) {
            EXPECT.same("2: its number", x.addProcess(1 + p), p);
            EXPECT.same("2: so many now", x.count(0), p + 1);
        }
        REFUSAL.refused("2: a sixth process", Expect.STATE, Protocols::full, y -> y.addProcess(1));
        REFUSAL.refused("2: a sixth process", Expect.STATE, Protocols::full, y -> y.addProcess(8));
    }

    /** "If several exceptions apply, the one that is named first is thrown." */
    private static void processErrorsInOrder() {
        REFUSAL.outside("2: a sixth process, locations", Expect.ARGUMENT, Protocols::full, 1, 8,
            (x, n) -> x.addProcess(n));
    }

    // ---- promise 3

    /** "if greatest is not 1 to 9". */
    private static void greatestOfVariable() {
        REFUSAL.outside("3: greatest", Expect.ARGUMENT, Protocols::small, 1, 9, (x, n) -> x.addVariable(n, 0));
        REFUSAL.refused("3: greatest and begin 0", Expect.ARGUMENT, FairChecker::new, x -> x.addVariable(0, 0));
        REFUSAL.refused("3: greatest and begin 10", Expect.ARGUMENT, FairChecker::new, x -> x.addVariable(10, 10));
        for (int greatest = 1; greatest <= 9; greatest++) {
            FairChecker x = Protocols.idle(1);
            EXPECT.same("3: addVariable(" + greatest + ", 0)", x.addVariable(greatest, 0), 0);
            x.addMove(0, 0, 0, 0);
            x.deed(0, 0, 2, 0, 1);
            EXPECT.same("3: each value up to " + greatest, x.explore(), greatest + 1);
            EXPECT.same("3: the greatest one", x.state(greatest, 5), greatest);
        }
    }

    /** "or begin is not 0 to greatest"; "begins with a value of its own". */
    private static void beginOfVariable() {
        for (int greatest = 1; greatest <= 9; greatest++) {
            int g = greatest;
            REFUSAL.outside("3: begin", Expect.ARGUMENT, Protocols::small, 0, g, (x, n) -> x.addVariable(g, n));
            for (int begin = 0; begin <= g; begin++) {
                FairChecker x = Protocols.idle(1);
                EXPECT.same("3: addVariable(" + g + ", " + begin + ")", x.addVariable(g, begin), 0);
                x.explore();
                EXPECT.same("3: it begins with", x.state(0, 5), begin);
            }
        }
    }

    /** "if there are 4"; "at most 4 variables, numbered likewise". */
    private static void fourVariables() {
        FairChecker x = Protocols.idle(1);
        for (int v = 0; v < 4; v++) {
            EXPECT.same("3: its number", x.addVariable(9, 9 - v), v);
            EXPECT.same("3: so many now", x.count(1), v + 1);
        }
        x.explore();
        for (int v = 0; v < 4; v++) {
            EXPECT.same("3: each has a value of its own", x.state(0, 5 + v), 9 - v);
        }
        REFUSAL.refused("3: a fifth variable", Expect.STATE, Protocols::full, y -> y.addVariable(1, 0));
        REFUSAL.refused("3: a fifth variable", Expect.STATE, Protocols::full, y -> y.addVariable(9, 9));
    }

    /** "If several exceptions apply, the one that is named first is thrown." */
    private static void variableErrorsInOrder() {
        REFUSAL.outside("3: a fifth variable, greatest", Expect.ARGUMENT, Protocols::full, 1, 9,
            (x, n) -> x.addVariable(n, 0));
        REFUSAL.outside("3: a fifth variable, begin", Expect.ARGUMENT, Protocols::full, 0, 9,
            (x, n) -> x.addVariable(9, n));
    }

    // ---- promise 4

    /** "if there is no such process". */
    private static void processOfMove() {
        for (int processes = 1; processes <= 5; processes++) {
            int n = processes;
            REFUSAL.outside("4: process of " + n, Expect.INDEX, () -> Protocols.idle(n), 0, n - 1,
                (x, p) -> x.addMove(p, 0, 0, 0));
            FairChecker x = Protocols.idle(n);
            EXPECT.same("4: the first process of " + n, x.addMove(0, 0, 0, 0), 0);
            EXPECT.same("4: the last process of " + n, x.addMove(n - 1, 0, 0, 0), n == 1 ? 1 : 0);
        }
    }

    /** "if from or to is no location of it": of it, though another process may have more. */
    private static void locationsOfMove() {
        for (int locations = 1; locations <= 8; locations++) {
            int n = locations;
            Supplier<FairChecker> maker = () -> {
                FairChecker x = new FairChecker();
                x.addProcess(n);
                x.addProcess(8);
                x.explore();
                return x;
            };
            REFUSAL.outside("4: from", Expect.ARGUMENT, maker, 0, n - 1, (x, l) -> x.addMove(0, l, 0, 0));
            REFUSAL.outside("4: to", Expect.ARGUMENT, maker, 0, n - 1, (x, l) -> x.addMove(0, 0, l, 0));
            FairChecker x = maker.get();
            EXPECT.same("4: to the last location", x.addMove(0, 0, n - 1, 0), 0);
            EXPECT.same("4: from the last location", x.addMove(0, n - 1, 0, 0), 1);
            EXPECT.same("4: at the last location of another one", x.addMove(1, 7, 7, 0), 0);
            EXPECT.same("4: there and back", x.explore(), n == 1 ? 1 : 2);
            EXPECT.same("4: there and back", x.count(5), 2);
        }
    }

    /** "or hand is not 0 to 9"; "a hand, 0 for none, or 1 to 9". */
    private static void handOfMove() {
        REFUSAL.outside("4: hand", Expect.ARGUMENT, Protocols::small, 0, 9, (x, h) -> x.addMove(0, 0, 0, h));
        for (int hand = 0; hand <= 9; hand++) {
            FairChecker x = Protocols.idle(2);
            EXPECT.same("4: addMove of hand " + hand, x.addMove(0, 0, 0, hand), 0);
            x.explore();
            EXPECT.same("4: alone by the hand 0 only", x.count(5), hand == 0 ? 1 : 0);
        }
    }

    /** "if the process has 16"; "at most 16 moves, numbered from 0 in the order of their creation". */
    private static void sixteenMoves() {
        FairChecker x = Protocols.idle(2);
        for (int m = 0; m < 16; m++) {
            EXPECT.same("4: its number", x.addMove(1, 0, 0, 0), m);
            EXPECT.same("4: so many now", x.count(2), m + 1);
        }
        EXPECT.same("4: another process has moves of its own", x.addMove(0, 0, 0, 0), 0);
        for (int process = 0; process < 5; process++) {
            int p = process;
            REFUSAL.refused("4: a seventeenth move of " + p, Expect.STATE, Protocols::full,
                y -> y.addMove(p, 0, 0, 9));
        }
    }

    /** "If several exceptions apply, the one that is named first is thrown." */
    private static void moveErrorsInOrder() {
        REFUSAL.refused("4: no process, no location", Expect.INDEX, Protocols::full, x -> x.addMove(5, 8, -1, 10));
        REFUSAL.refused("4: no process, no location", Expect.INDEX, Protocols::small, x -> x.addMove(-1, 3, 0, 0));
        REFUSAL.refused("4: no process, no hand", Expect.INDEX, Protocols::small, x -> x.addMove(2, 0, 0, 10));
        REFUSAL.refused("4: no from, full", Expect.ARGUMENT, Protocols::full, x -> x.addMove(4, 1, 0, 0));
        REFUSAL.refused("4: no to, full", Expect.ARGUMENT, Protocols::full, x -> x.addMove(4, 0, 1, 0));
        REFUSAL.refused("4: no hand, full", Expect.ARGUMENT, Protocols::full, x -> x.addMove(4, 0, 0, 10));
    }

    // ---- promises 5 and 6

    /** "if there is no such process or move". */
    private static void moveOfGuardAndDeed() {
        REFUSAL.outside("5: process", Expect.INDEX, Protocols::small, 0, 1, (x, p) -> x.guard(p, 0, 0, 0, 0));
        REFUSAL.outside("6: process", Expect.INDEX, Protocols::small, 0, 1, (x, p) -> x.deed(p, 0, 0, 0, 0));
        REFUSAL.outside("5: move", Expect.INDEX, Protocols::small, 0, 1, (x, m) -> x.guard(0, m, 0, 0, 0));
        REFUSAL.outside("6: move", Expect.INDEX, Protocols::small, 0, 1, (x, m) -> x.deed(0, m, 0, 0, 0));
        REFUSAL.outside("5: its move", Expect.INDEX, Protocols::small, 0, 0, (x, m) -> x.guard(1, m, 0, 0, 0));
        REFUSAL.outside("6: its move", Expect.INDEX, Protocols::small, 0, 0, (x, m) -> x.deed(1, m, 0, 0, 0));
        REFUSAL.outside("5: of 80 moves", Expect.INDEX, Protocols::full, 0, 15, (x, m) -> x.guard(0, m, 0, 0, 0));
        REFUSAL.outside("6: of 80 moves", Expect.INDEX, Protocols::full, 0, 15, (x, m) -> x.deed(4, m, 0, 0, 0));
        REFUSAL.outside("5: process of none", Expect.INDEX, () -> Protocols.idle(1), 0, -1,
            (x, m) -> x.guard(0, m, 0, 0, 0));
        REFUSAL.outside("6: process of none", Expect.INDEX, () -> Protocols.idle(1), 0, -1,
            (x, m) -> x.deed(0, m, 0, 0, 0));
        FairChecker x = Protocols.full();
        EXPECT.same("5: the last move of all", x.guard(4, 15, 1, 3, 4), 0);
        EXPECT.same("6: the last move of all", x.deed(4, 15, 2, 3, 1), 0);
        EXPECT.same("5: the first move of all", x.guard(0, 0, 1, 3, 4), 0);
        EXPECT.same("5: only these two have a guard", x.explore(), 1);
        EXPECT.same("5: and both are closed", x.count(5), 78);
    }

    /** "if sort is not 0 to 4"; "if sort is not 0 to 2". */
    private static void sortOfGuardAndDeed() {
        REFUSAL.outside("5: sort", Expect.ARGUMENT, Protocols::small, 0, 4, (x, s) -> x.guard(0, 0, s, 0, 2));
        REFUSAL.outside("6: sort", Expect.ARGUMENT, Protocols::small, 0, 2, (x, s) -> x.deed(0, 0, s, 0, 1));
        FairChecker x = Protocols.small();
        for (int sort = 0; sort <= 4; sort++) {
            EXPECT.same("5: sort " + sort, x.guard(1, 0, sort, 0, 2), sort == 0 ? 0 : sort - 1);
        }
        for (int sort = 0; sort <= 2; sort++) {
            EXPECT.same("6: sort " + sort, x.deed(0, 1, sort, 0, 2), sort == 0 ? 0 : sort - 1);
        }
    }

    /** "there is no such variable and sort is not 0". */
    private static void variableOfGuardAndDeed() {
        for (int variables = 0; variables <= 4; variables++) {
            int n = variables;
            Supplier<FairChecker> maker = () -> withVariables(n);
            for (int sort = 1; sort <= 4; sort++) {
                int s = sort;
                REFUSAL.outside("5: variable", Expect.ARGUMENT, maker, 0, n - 1, (x, v) -> x.guard(0, 0, s, v, 0));
            }
            for (int sort = 1; sort <= 2; sort++) {
                int s = sort;
                REFUSAL.outside("6: variable", Expect.ARGUMENT, maker, 0, n - 1, (x, v) -> x.deed(0, 0, s, v, 0));
            }
            FairChecker x = maker.get();
            for (int v = 0; v < n; v++) {
                EXPECT.same("5: the variable " + v, x.guard(0, 0, 1, v, v), v == 0 ? 0 : 1);
                EXPECT.same("6: the variable " + v, x.deed(0, 0, 2, v, 1), v == 0 ? 0 : 2);
                EXPECT.same("6: it is open, and changes the variable " + v, x.explore(), 2);
                EXPECT.same("6: the variable " + v, x.state(1, 5 + v), v + 1);
            }
        }
    }

    /** One move that goes nowhere; so many variables, each of which begins with its number. */
    private static FairChecker withVariables(int variables) {
        FairChecker x = Protocols.idle(1);
        x.addMove(0, 0, 0, 0);
        for (int v = 0; v < variables; v++) {
            x.addVariable(9, v);
        }
        x.explore();
        return x;
    }

    /** "it must be there, unless sort is 0". */
    private static void variableOfSortNone() {
        for (int variables = 0; variables <= 4; variables += 4) {
            FairChecker x = withVariables(variables);
            for (int v : new int[] {-1, 0, variables, 4, Integer.MIN_VALUE, Integer.MAX_VALUE}) {
                EXPECT.same("5: of the sort 0, variable " + v, x.guard(0, 0, 0, v, 9), 0);
                EXPECT.same("6: of the sort 0, variable " + v, x.deed(0, 0, 0, v, -9), 0);
                EXPECT.same("5: it does nothing", x.explore(), 1);
                EXPECT.same("5: and is open", x.count(5), 1);
            }
        }
    }

    /** "or number is not 0 to 9". */
    private static void numberOfGuard() {
        for (int sort = 0; sort <= 4; sort++) {
            int s = sort;
            REFUSAL.outside("5: number", Expect.ARGUMENT, Protocols::small, 0, 9, (x, n) -> x.guard(0, 0, s, 0, n));
            FairChecker x = Protocols.small();
            EXPECT.same("5: number 0", x.guard(0, 0, s, 0, 0), 1);
            EXPECT.same("5: number 9", x.guard(0, 0, s, 0, 9), s);
        }
    }

    /** "or number is not -9 to 9". */
    private static void numberOfDeed() {
        for (int sort = 0; sort <= 2; sort++) {
            int s = sort;
            REFUSAL.outside("6: number", Expect.ARGUMENT, Protocols::small, -9, 9, (x, n) -> x.deed(0, 0, s, 0, n));
            FairChecker x = Protocols.small();
            EXPECT.same("6: number -9", x.deed(0, 0, s, 0, -9), 2);
            EXPECT.same("6: number 9", x.deed(0, 0, s, 0, 9), s);
        }
    }

    /** "Returns the sort before": 0 for a new move, and each sort up to the last one. */
    private static void sortBefore() {
        FairChecker x = withVariables(1);
        int[] guards = {4, 3, 2, 1, 0, 4, 4, 0};
        int[] deeds = {2, 1, 0, 2, 2, 0, 1, 1};
        for (int i = 0; i < guards.length; i++) {
            EXPECT.same("5: the sort before", x.guard(0, 0, guards[i], 0, 0), i == 0 ? 0 : guards[i - 1]);
            EXPECT.same("6: the sort before", x.deed(0, 0, deeds[i], 0, 0), i == 0 ? 0 : deeds[i - 1]);
        }
    }

    /** "If several exceptions apply, the one that is named first is thrown." */
    private static void guardAndDeedErrorsInOrder() {
        REFUSAL.refused("5: no process, no sort", Expect.INDEX, Protocols::small, x -> x.guard(2, 0, 5, 0, 0));
        REFUSAL.refused("5: no move, no variable", Expect.INDEX, Protocols::small, x -> x.guard(1, 1, 1, 2, 0));
        REFUSAL.refused("5: no move, no number", Expect.INDEX, Protocols::small, x -> x.guard(0, 2, 0, 0, 10));
        REFUSAL.refused("6: no process, no sort", Expect.INDEX, Protocols::small, x -> x.deed(-1, 0, 3, 0, 0));
        REFUSAL.refused("6: no move, no variable", Expect.INDEX, Protocols::small, x -> x.deed(1, 1, 1, 2, 0));
        REFUSAL.refused("6: no move, no number", Expect.INDEX, Protocols::small, x -> x.deed(0, -1, 0, 0, 10));
    }

    // ---- promise 7

    /** "if what is not 0 to 5". */
    private static void whatOfCount() {
        REFUSAL.outside("7: what", Expect.INDEX, Protocols::small, 0, 5, (x, w) -> x.count(w));
        REFUSAL.outside("7: what", Expect.INDEX, FairChecker::new, 0, 5, (x, w) -> x.count(w));
    }

    /** "4 and 5: 0 if it is unexplored"; and the most that there may be of each. */
    private static void countsAtTheirMost() {
        FairChecker x = Protocols.full();
        int[] due = {5, 4, 80, 12, 1, 80};
        for (int what = 0; what <= 5; what++) {
            EXPECT.same("7: count(" + what + ") of all", x.count(what), due[what]);
        }
        x.guard(0, 0, 0, 0, 0);
        for (int what = 0; what <= 5; what++) {
            EXPECT.same("7: count(" + what + "), unexplored", x.count(what), what < 4 ? due[what] : 0);
        }
        FairChecker dearest = Protocols.dearest(3);
        dearest.explore();
        EXPECT.same("7: all states", dearest.count(4), 400);
        EXPECT.same("7: all steps", dearest.count(5), 400 * 2560);
        FairChecker one = Protocols.idle(1);
        one.explore();
        EXPECT.same("7: one state", one.count(4), 1);
        EXPECT.same("7: no steps", one.count(5), 0);
    }

    // ---- all of them

    /** "Each change of the protocol makes it unexplored (.. also as it was before)". */
    private static void eachChangeUnexplores() {
        Refusal.Call[] changes = {x -> x.addProcess(1), x -> x.addVariable(1, 0), x -> x.addMove(0, 2, 2, 0),
            x -> x.guard(0, 0, 1, 0, 2), x -> x.guard(0, 1, 0, 0, 0), x -> x.deed(0, 0, 2, 0, 1),
            x -> x.deed(0, 1, 0, 0, 0)};
        for (int i = 0; i < changes.length; i++) {
            FairChecker x = Protocols.small();
            EXPECT.same("change " + i + ": explored", x.count(4), 3);
            changes[i].on(x);
            EXPECT.same("change " + i + ": no states", x.count(4), 0);
            EXPECT.same("change " + i + ": no steps", x.count(5), 0);
            EXPECT.same("change " + i + ": branching()", x.branching(), 0.0);
            EXPECT.fails("change " + i + ": state", Expect.INDEX, () -> x.state(0, 9));
            EXPECT.fails("change " + i + ": stuck", Expect.STATE, x::stuck);
            EXPECT.fails("change " + i + ": where", Expect.STATE, () -> x.where(0, true));
            EXPECT.same("change " + i + ": explored again", x.explore(), 3);
        }
    }

    /** "A method that throws an exception changes nothing": what was explored last stays, too. */
    private static void refusedCallLeavesItExplored() {
        FairChecker x = Protocols.full();
        Refusal.Call[] refused = {y -> y.addProcess(1), y -> y.addVariable(1, 0), y -> y.addMove(0, 0, 0, 0),
            y -> y.addFact(0, 0, 0)};
        for (Refusal.Call call : refused) {
            EXPECT.fails("one too many", Expect.STATE, () -> call.on(x));
            EXPECT.same("it is still explored", x.count(4), 1);
            EXPECT.same("it is still explored", x.count(5), 80);
        }
    }
}
